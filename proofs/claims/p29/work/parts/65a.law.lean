/-! L_at -/
set_option maxHeartbeats 4000000 in
set_option maxRecDepth 100000 in
theorem c_L_at (l : Launch) (D : va_G) (t : T3)  (p0 : Int32) (p1 : Int32) (Q : Int32 → Prop) (h : wp_L_at p0 p1 Q) : Ct l yL_at wsL_at 0 0 0 0 [.int p0, .int p1] D t ([] : va_W) (fun sz => Qi D ([] : va_W) (fun (u : Unit) => ([] : va_W)) (fun (r : Int32) (u : Unit) => Q r ) sz) := by
  refine Ct.of (Qf := fun _ A => va_Qi (fun (r : Int32) (u : Unit) => Q r ) (B1 D (fun (u : Unit) => ([] : va_W)) A) A) cL_at 2 (some .int) (by decide) rfl (Nat.le_of_ble_eq_true rfl) ?_
  intro p e s m below meth c A ls hAe hin X hw hl
  generalize ([.int p0, .int p1] : List Value).toArray = args at X ⊢
  have hl : lv_has ls 2 [(0, .int p0), (1, .int p1)] := hl
  have hx := X.1.1
  have hb := X.1.2.1
  refine lv_iload_n hx hb dL_at_0 rfl (lv_at hl 0 rfl) ?_
  refine lv_iconst (v := 1) hx hb dL_at_1 (by decide) ?_
  refine r_iushr hx hb dL_at_2 ?_
  refine lv_iload_n hx hb dL_at_3 rfl (lv_at hl 1 rfl) ?_
  obtain ⟨hn_1, h⟩ := h
  refine r_irem hx hb dL_at_4 hn_1 ?_
  exact e_i (w1 := (fun (u : Unit) => ([] : va_W))) X () hw h dL_at_5
/-! L_color -/
set_option maxHeartbeats 4000000 in
set_option maxRecDepth 100000 in
theorem k_L_color_105 {p : Program} {l : Launch} {e : Env} {s : State} {m : MethodId} {below : List Frame} {meth : Method} {c : Code} {args : Array Value} {D : va_G} {t : T3} {A : Nat → Prop} (X : Cx p s m meth c args cL_color 7 (some .int) RL wsL_color D t A) (aI48 : Nat) {P : IV → Int32 → Int32 → Int32 → Int32 → Int32 → Prop} {K113 : IV → Int32 → Int32 → Prop} {Q : Int32 → IV → Prop} (hP : ∀ (vI48 : IV) (x0 : Int32) (x2 : Int32) (x4 : Int32) (x5 : Int32) (x6 : Int32) (H : Heap) (locs : List Loc) (ls : Array Slot), P vI48 x0 x2 x4 x5 x6 → Wd D A s.heap (i48W t aI48 vI48) H locs → lv_has ls 7 [(0, .int x0), (2, .int x2), (3, .ref aI48), (4, .int x4), (5, .int x5), (6, .int x6)] → W p l e ({ frames := 0, cells := 0, slots := 0, locals := 0 } : Room) s m args below meth c H locs 0 0 (Ei below args s A D (fun (u : IV) => (i48W t aI48 u)) (fun (r : Int32) (u : IV) => Q r u) 0 0) (F0 m 63 ls [])) (hK113 : ∀ (vI48 : IV) (x4 : Int32) (x5 : Int32) (H : Heap) (locs : List Loc) (ls : Array Slot), K113 vI48 x4 x5 → Wd D A s.heap (i48W t aI48 vI48) H locs → lv_has ls 7 [(3, .ref aI48), (4, .int x4), (5, .int x5)] → W p l e ({ frames := 0, cells := 0, slots := 0, locals := 0 } : Room) s m args below meth c H locs 0 0 (Ei below args s A D (fun (u : IV) => (i48W t aI48 u)) (fun (r : Int32) (u : IV) => Q r u) 0 0) (F0 m 113 ls [])) : ∀ (vI48 : IV) (x0 : Int32) (x2 : Int32) (x4 : Int32) (x6 : Int32) (t0 : Int32) (H : Heap) (locs : List Loc) (ls : Array Slot), wp_L_color_105 P K113 Q vI48 x0 x2 x4 x6 t0 → Wd D A s.heap (i48W t aI48 vI48) H locs → lv_has ls 7 [(0, .int x0), (2, .int x2), (3, .ref aI48), (4, .int x4), (6, .int x6)] → W p l e ({ frames := 0, cells := 0, slots := 0, locals := 0 } : Room) s m args below meth c H locs 0 0 (Ei below args s A D (fun (u : IV) => (i48W t aI48 u)) (fun (r : Int32) (u : IV) => Q r u) 0 0) (F0 m 105 ls [.int t0]) := by
  intro vI48 x0 x2 x4 x6 t0 H locs ls h hw hl
  have hx := X.1.1
  have hb := X.1.2.1
  refine lv_istore (lv' := [(5, .int t0), (0, .int x0), (2, .int x2), (3, .ref aI48), (4, .int x4), (6, .int x6)]) hx hb dL_color_105 hl (by decide) rfl (fun ls hl => ?_)
  obtain ⟨x6_2, ex6_2⟩ : ∃ z : Int32, z = x6 + 1 := ⟨_, rfl⟩
  replace h := h x6_2 ex6_2
  refine lv_iinc (v := x6_2) (lv' := [(6, .int x6_2), (5, .int t0), (0, .int x0), (2, .int x2), (3, .ref aI48), (4, .int x4)]) hx hb dL_color_107 hl (k := 5) rfl (by rw [ex6_2]; rfl) (by decide) rfl (fun ls hl => ?_)
  refine lv_goto (tgt := 63) hx hb dL_color_110 (by decide) ?_
  exact hP _ _ _ _ _ _ _ _ _ h hw (lv_sub hl [2, 3, 4, 5, 1, 0] rfl)
set_option maxHeartbeats 4000000 in
set_option maxRecDepth 100000 in
theorem kb_L_color_63 {p : Program} {l : Launch} {e : Env} {s : State} {m : MethodId} {below : List Frame} {meth : Method} {c : Code} {args : Array Value} {D : va_G} {t : T3} {A : Nat → Prop} (X : Cx p s m meth c args cL_color 7 (some .int) RL wsL_color D t A) (aI48 : Nat) {Q : Int32 → IV → Prop} {P : IV → Int32 → Int32 → Int32 → Int32 → Int32 → Prop} {K113 : IV → Int32 → Int32 → Prop} (hP : ∀ (vI48 : IV) (x0 : Int32) (x2 : Int32) (x4 : Int32) (x5 : Int32) (x6 : Int32) (H : Heap) (locs : List Loc) (ls : Array Slot), P vI48 x0 x2 x4 x5 x6 → Wd D A s.heap (i48W t aI48 vI48) H locs → lv_has ls 7 [(0, .int x0), (2, .int x2), (3, .ref aI48), (4, .int x4), (5, .int x5), (6, .int x6)] → W p l e ({ frames := 0, cells := 0, slots := 0, locals := 0 } : Room) s m args below meth c H locs 0 0 (Ei below args s A D (fun (u : IV) => (i48W t aI48 u)) (fun (r : Int32) (u : IV) => Q r u) 0 0) (F0 m 63 ls [])) (hK113 : ∀ (vI48 : IV) (x4 : Int32) (x5 : Int32) (H : Heap) (locs : List Loc) (ls : Array Slot), K113 vI48 x4 x5 → Wd D A s.heap (i48W t aI48 vI48) H locs → lv_has ls 7 [(3, .ref aI48), (4, .int x4), (5, .int x5)] → W p l e ({ frames := 0, cells := 0, slots := 0, locals := 0 } : Room) s m args below meth c H locs 0 0 (Ei below args s A D (fun (u : IV) => (i48W t aI48 u)) (fun (r : Int32) (u : IV) => Q r u) 0 0) (F0 m 113 ls [])) : ∀ (vI48 : IV) (x0 : Int32) (x2 : Int32) (x4 : Int32) (x5 : Int32) (x6 : Int32) (H : Heap) (locs : List Loc) (ls : Array Slot), bd_L_color_63 Q P K113 vI48 x0 x2 x4 x5 x6 → Wd D A s.heap (i48W t aI48 vI48) H locs → lv_has ls 7 [(0, .int x0), (2, .int x2), (3, .ref aI48), (4, .int x4), (5, .int x5), (6, .int x6)] → W p l e ({ frames := 0, cells := 0, slots := 0, locals := 0 } : Room) s m args below meth c H locs 0 0 (Ei below args s A D (fun (u : IV) => (i48W t aI48 u)) (fun (r : Int32) (u : IV) => Q r u) 0 0) (F0 m 63 ls []) := by
  intro vI48 x0 x2 x4 x5 x6 H locs ls h hw hl
  have hx := X.1.1
  have hb := X.1.2.1
  refine lv_iload hx hb dL_color_63 (lv_at hl 5 rfl) ?_
  refine lv_iload_n hx hb dL_color_65 rfl (lv_at hl 0 rfl) ?_
  refine lv_iconst (v := 4) hx hb dL_color_66 (by decide) ?_
  refine r_irem hx hb dL_color_67 (by decide) ?_
  refine lv_icmp_ge (tgt := 113) hx hb dL_color_68 (by decide) (fun c_6 => ?_) (fun c_6 => ?_)
  · replace h := h.1 c_6
    exact hK113 _ _ _ _ _ _ h hw (lv_sub hl [2, 3, 4] rfl)
  replace h := h.2 c_6
  refine lv_iload_n hx hb dL_color_71 rfl (lv_at hl 1 rfl) ?_
  refine lv_if_eq (tgt := 92) hx hb dL_color_72 (by decide) (fun c_5 => ?_) (fun c_5 => ?_)
  · replace h := h.1 c_5
    refine lv_iload hx hb dL_color_92 (lv_at hl 4 rfl) ?_
    refine lv_if_ne (tgt := 101) hx hb dL_color_94 (by decide) (fun c_3 => ?_) (fun c_3 => ?_)
    · replace h := h.1 c_3
      refine lv_iload hx hb dL_color_101 (lv_at hl 4 rfl) ?_
      refine lv_iconst (v := 1) hx hb dL_color_103 (by decide) ?_
      refine lv_isub hx hb dL_color_104 ?_
      exact k_L_color_105 X aI48 hP hK113 _ _ _ _ _ _ _ _ _ h hw (lv_sub hl [0, 1, 2, 3, 5] rfl)
    replace h := h.2 c_3
    refine lv_iconst (v := 3) hx hb dL_color_97 (by decide) ?_
    refine lv_goto (tgt := 105) hx hb dL_color_98 (by decide) ?_
    exact k_L_color_105 X aI48 hP hK113 _ _ _ _ _ _ _ _ _ h hw (lv_sub hl [0, 1, 2, 3, 5] rfl)
  replace h := h.2 c_5
  refine lv_iload hx hb dL_color_75 (lv_at hl 4 rfl) ?_
  refine lv_iconst (v := 3) hx hb dL_color_77 (by decide) ?_
  refine lv_icmp_ne (tgt := 85) hx hb dL_color_78 (by decide) (fun c_4 => ?_) (fun c_4 => ?_)
  · replace h := h.1 c_4
    refine lv_iload hx hb dL_color_85 (lv_at hl 4 rfl) ?_
    refine lv_iconst (v := 1) hx hb dL_color_87 (by decide) ?_
    refine lv_iadd hx hb dL_color_88 ?_
    refine lv_goto (tgt := 105) hx hb dL_color_89 (by decide) ?_
    exact k_L_color_105 X aI48 hP hK113 _ _ _ _ _ _ _ _ _ h hw (lv_sub hl [0, 1, 2, 3, 5] rfl)
  replace h := h.2 c_4
  refine lv_iconst (v := 0) hx hb dL_color_81 (by decide) ?_
  refine lv_goto (tgt := 105) hx hb dL_color_82 (by decide) ?_
  exact k_L_color_105 X aI48 hP hK113 _ _ _ _ _ _ _ _ _ h hw (lv_sub hl [0, 1, 2, 3, 5] rfl)
set_option maxHeartbeats 4000000 in
set_option maxRecDepth 100000 in
theorem k_L_color_63 {p : Program} {l : Launch} {e : Env} {s : State} {m : MethodId} {below : List Frame} {meth : Method} {c : Code} {args : Array Value} {D : va_G} {t : T3} {A : Nat → Prop} (X : Cx p s m meth c args cL_color 7 (some .int) RL wsL_color D t A) (aI48 : Nat) {Q : Int32 → IV → Prop} {K113 : IV → Int32 → Int32 → Prop} (hK113 : ∀ (vI48 : IV) (x4 : Int32) (x5 : Int32) (H : Heap) (locs : List Loc) (ls : Array Slot), K113 vI48 x4 x5 → Wd D A s.heap (i48W t aI48 vI48) H locs → lv_has ls 7 [(3, .ref aI48), (4, .int x4), (5, .int x5)] → W p l e ({ frames := 0, cells := 0, slots := 0, locals := 0 } : Room) s m args below meth c H locs 0 0 (Ei below args s A D (fun (u : IV) => (i48W t aI48 u)) (fun (r : Int32) (u : IV) => Q r u) 0 0) (F0 m 113 ls [])) : ∀ (vI48 : IV) (x0 : Int32) (x2 : Int32) (x4 : Int32) (x5 : Int32) (x6 : Int32) (H : Heap) (locs : List Loc) (ls : Array Slot), wp_L_color_63 Q K113 vI48 x0 x2 x4 x5 x6 → Wd D A s.heap (i48W t aI48 vI48) H locs → lv_has ls 7 [(0, .int x0), (2, .int x2), (3, .ref aI48), (4, .int x4), (5, .int x5), (6, .int x6)] → W p l e ({ frames := 0, cells := 0, slots := 0, locals := 0 } : Room) s m args below meth c H locs 0 0 (Ei below args s A D (fun (u : IV) => (i48W t aI48 u)) (fun (r : Int32) (u : IV) => Q r u) 0 0) (F0 m 63 ls []) := by
  intro vI48 x0 x2 x4 x5 x6 H locs ls h hw hl
  have hx := X.1.1
  have hb := X.1.2.1
  refine h (fun (vI48 : IV) (x0 : Int32) (x2 : Int32) (x4 : Int32) (x5 : Int32) (x6 : Int32) => ∀ (H : Heap) (locs : List Loc) (ls : Array Slot), Wd D A s.heap (i48W t aI48 vI48) H locs → lv_has ls 7 [(0, .int x0), (2, .int x2), (3, .ref aI48), (4, .int x4), (5, .int x5), (6, .int x6)] → W p l e ({ frames := 0, cells := 0, slots := 0, locals := 0 } : Room) s m args below meth c H locs 0 0 (Ei below args s A D (fun (u : IV) => (i48W t aI48 u)) (fun (r : Int32) (u : IV) => Q r u) 0 0) (F0 m 63 ls [])) (fun vI48 x0 x2 x4 x5 x6 h H locs ls hw hl => ?_) H locs ls hw hl
  exact kb_L_color_63 X aI48 (fun vI48 x0 x2 x4 x5 x6 H locs ls q hw hl => q H locs ls hw hl) hK113 vI48 x0 x2 x4 x5 x6 _ _ _ h hw hl
set_option maxHeartbeats 4000000 in
set_option maxRecDepth 100000 in
theorem k_L_color_58 {p : Program} {l : Launch} {e : Env} {s : State} {m : MethodId} {below : List Frame} {meth : Method} {c : Code} {args : Array Value} {D : va_G} {t : T3} {A : Nat → Prop} (X : Cx p s m meth c args cL_color 7 (some .int) RL wsL_color D t A) (aI48 : Nat) {Q : Int32 → IV → Prop}  : ∀ (vI48 : IV) (x0 : Int32) (x2 : Int32) (x4 : Int32) (t0 : Int32) (H : Heap) (locs : List Loc) (ls : Array Slot), wp_L_color_58 Q vI48 x0 x2 x4 t0 → Wd D A s.heap (i48W t aI48 vI48) H locs → lv_has ls 7 [(0, .int x0), (2, .int x2), (3, .ref aI48), (4, .int x4)] → W p l e ({ frames := 0, cells := 0, slots := 0, locals := 0 } : Room) s m args below meth c H locs 0 0 (Ei below args s A D (fun (u : IV) => (i48W t aI48 u)) (fun (r : Int32) (u : IV) => Q r u) 0 0) (F0 m 58 ls [.int t0]) := by
  intro vI48 x0 x2 x4 t0 H locs ls h hw hl
  have hx := X.1.1
  have hb := X.1.2.1
  refine lv_istore (lv' := [(5, .int t0), (0, .int x0), (2, .int x2), (3, .ref aI48), (4, .int x4)]) hx hb dL_color_58 hl (by decide) rfl (fun ls hl => ?_)
  refine lv_iconst (v := 0) hx hb dL_color_60 (by decide) ?_
  refine lv_istore (lv' := [(6, .int 0), (5, .int t0), (0, .int x0), (2, .int x2), (3, .ref aI48), (4, .int x4)]) hx hb dL_color_61 hl (by decide) rfl (fun ls hl => ?_)
  refine k_L_color_63 X aI48 (fun vI48_7 x4_8 x5_9 H locs ls h hw hl => ?_) _ _ _ _ _ _ _ _ _ h hw (lv_sub hl [2, 3, 4, 5, 1, 0] rfl)
  refine lv_aload_n hx hb dL_color_113 rfl (lv_at hl 0 rfl) ?_
  refine lv_iload hx hb dL_color_114 (lv_at hl 1 rfl) ?_
  refine lv_iload hx hb dL_color_116 (lv_at hl 2 rfl) ?_
  refine lv_iadd hx hb dL_color_118 ?_
  obtain ⟨hi_10, h⟩ := h
  refine r_iald (v := (vI48_7 (Int32.toNatClampNeg (x4_8 + x5_9)))) X hw 0 rfl hi_10 rfl dL_color_119 ?_
  exact e_i (w1 := (fun (u : IV) => (i48W t aI48 u))) X (vI48_7) hw h dL_color_120
set_option maxHeartbeats 4000000 in
set_option maxRecDepth 100000 in
theorem k_L_color_27 {p : Program} {l : Launch} {e : Env} {s : State} {m : MethodId} {below : List Frame} {meth : Method} {c : Code} {args : Array Value} {D : va_G} {t : T3} {A : Nat → Prop} (X : Cx p s m meth c args cL_color 7 (some .int) RL wsL_color D t A) (aI48 : Nat) {Q : Int32 → IV → Prop}  : ∀ (vI48 : IV) (x0 : Int32) (x1 : Int32) (x2 : Int32) (t0 : Int32) (t1 : Int32) (t2 : Int32) (H : Heap) (locs : List Loc) (ls : Array Slot), wp_L_color_27 Q vI48 x0 x1 x2 t0 t1 t2 → Wd D A s.heap (i48W t aI48 vI48) H locs → lv_has ls 7 [(0, .int x0), (1, .int x1), (2, .int x2), (3, .ref aI48)] → W p l e ({ frames := 0, cells := 0, slots := 0, locals := 0 } : Room) s m args below meth c H locs 0 0 (Ei below args s A D (fun (u : IV) => (i48W t aI48 u)) (fun (r : Int32) (u : IV) => Q r u) 0 0) (F0 m 27 ls [.int t2, .int t1, .int t0]) := by
  intro vI48 x0 x1 x2 t0 t1 t2 H locs ls h hw hl
  have hx := X.1.1
  have hb := X.1.2.1
  refine lv_imul hx hb dL_color_27 ?_
  refine lv_iadd hx hb dL_color_28 ?_
  refine lv_topi (fun x4_1 ex4_1 => ?_)
  replace h := h x4_1 ex4_1
  refine lv_istore (lv' := [(4, .int x4_1), (0, .int x0), (1, .int x1), (2, .int x2), (3, .ref aI48)]) hx hb dL_color_29 hl (by decide) rfl (fun ls hl => ?_)
  refine lv_iload_n hx hb dL_color_31 rfl (lv_at hl 3 rfl) ?_
  refine lv_if_eq (tgt := 57) hx hb dL_color_32 (by decide) (fun c_13 => ?_) (fun c_13 => ?_)
  · replace h := h.1 c_13
    refine lv_iload_n hx hb dL_color_57 rfl (lv_at hl 2 rfl) ?_
    exact k_L_color_58 X aI48 _ _ _ _ _ _ _ _ h hw (lv_sub hl [1, 3, 4, 0] rfl)
  replace h := h.2 c_13
  refine lv_iload_n hx hb dL_color_35 rfl (lv_at hl 2 rfl) ?_
  refine lv_iconst (v := 1) hx hb dL_color_36 (by decide) ?_
  refine lv_icmp_ne (tgt := 44) hx hb dL_color_37 (by decide) (fun c_12 => ?_) (fun c_12 => ?_)
  · replace h := h.1 c_12
    refine lv_iload_n hx hb dL_color_44 rfl (lv_at hl 2 rfl) ?_
    refine lv_iconst (v := 3) hx hb dL_color_45 (by decide) ?_
    refine lv_icmp_ne (tgt := 53) hx hb dL_color_46 (by decide) (fun c_11 => ?_) (fun c_11 => ?_)
    · replace h := h.1 c_11
      refine lv_iload_n hx hb dL_color_53 rfl (lv_at hl 2 rfl) ?_
      refine lv_goto (tgt := 58) hx hb dL_color_54 (by decide) ?_
      exact k_L_color_58 X aI48 _ _ _ _ _ _ _ _ h hw (lv_sub hl [1, 3, 4, 0] rfl)
    replace h := h.2 c_11
    refine lv_iconst (v := 1) hx hb dL_color_49 (by decide) ?_
    refine lv_goto (tgt := 58) hx hb dL_color_50 (by decide) ?_
    exact k_L_color_58 X aI48 _ _ _ _ _ _ _ _ h hw (lv_sub hl [1, 3, 4, 0] rfl)
  replace h := h.2 c_12
  refine lv_iconst (v := 3) hx hb dL_color_40 (by decide) ?_
  refine lv_goto (tgt := 58) hx hb dL_color_41 (by decide) ?_
  exact k_L_color_58 X aI48 _ _ _ _ _ _ _ _ h hw (lv_sub hl [1, 3, 4, 0] rfl)
set_option maxHeartbeats 4000000 in
set_option maxRecDepth 100000 in
theorem c_L_color (l : Launch) (D : va_G) (t : T3) (aI48 : Nat) (vI48 : IV) (p0 : Int32) (p1 : Int32) (p2 : Int32) (Q : Int32 → IV → Prop) (h : wp_L_color vI48 p0 p1 p2 Q) : Ct l yL_color wsL_color 0 0 0 0 [.int p0, .int p1, .int p2, .ref aI48] D t (i48W t aI48 vI48) (fun sz => Qi D (i48W t aI48 vI48) (fun (u : IV) => (i48W t aI48 u)) (fun (r : Int32) (u : IV) => Q r u) sz) := by
  refine Ct.of (Qf := fun _ A => va_Qi (fun (r : Int32) (u : IV) => Q r u) (B1 D (fun (u : IV) => (i48W t aI48 u)) A) A) cL_color 7 (some .int) (by decide) rfl (Nat.le_of_ble_eq_true rfl) ?_
  intro p e s m below meth c A ls hAe hin X hw hl
  generalize ([.int p0, .int p1, .int p2, .ref aI48] : List Value).toArray = args at X ⊢
  have hl : lv_has ls 7 [(0, .int p0), (1, .int p1), (2, .int p2), (3, .ref aI48)] := hl
  have hx := X.1.1
  have hb := X.1.2.1
  refine lv_bipush (v := 8) hx hb dL_color_0 (by decide) ?_
  refine lv_iload_n hx hb dL_color_2 rfl (lv_at hl 0 rfl) ?_
  refine lv_bipush (v := 8) hx hb dL_color_3 (by decide) ?_
  refine lv_idiv hx hb dL_color_5 (by decide) ?_
  refine lv_imul hx hb dL_color_6 ?_
  refine lv_iconst (v := 4) hx hb dL_color_7 (by decide) ?_
  refine lv_iload_n hx hb dL_color_8 rfl (lv_at hl 2 rfl) ?_
  refine lv_if_eq (tgt := 22) hx hb dL_color_9 (by decide) (fun c_14 => ?_) (fun c_14 => ?_)
  · replace h := h.1 c_14
    refine lv_iload_n hx hb dL_color_22 rfl (lv_at hl 0 rfl) ?_
    refine lv_iconst (v := 4) hx hb dL_color_23 (by decide) ?_
    refine lv_idiv hx hb dL_color_24 (by decide) ?_
    refine lv_iconst (v := 2) hx hb dL_color_25 (by decide) ?_
    refine r_irem hx hb dL_color_26 (by decide) ?_
    exact k_L_color_27 X aI48 _ _ _ _ _ _ _ _ _ _ h hw hl
  replace h := h.2 c_14
  refine lv_iconst (v := 1) hx hb dL_color_12 (by decide) ?_
  refine lv_iload_n hx hb dL_color_13 rfl (lv_at hl 0 rfl) ?_
  refine lv_iconst (v := 4) hx hb dL_color_14 (by decide) ?_
  refine lv_idiv hx hb dL_color_15 (by decide) ?_
  refine lv_iconst (v := 2) hx hb dL_color_16 (by decide) ?_
  refine r_irem hx hb dL_color_17 (by decide) ?_
  refine lv_isub hx hb dL_color_18 ?_
  refine lv_goto (tgt := 27) hx hb dL_color_19 (by decide) ?_
  exact k_L_color_27 X aI48 _ _ _ _ _ _ _ _ _ _ h hw hl
/-! L_beyond -/
set_option maxHeartbeats 4000000 in
set_option maxRecDepth 100000 in
theorem k_L_beyond_49 {p : Program} {l : Launch} {e : Env} {s : State} {m : MethodId} {below : List Frame} {meth : Method} {c : Code} {args : Array Value} {D : va_G} {t : T3} {A : Nat → Prop} (X : Cx p s m meth c args cL_beyond 5 (some .int) RL wsL_beyond D t A) (aI28 : Nat) {Q : Int32 → IV → Prop}  : ∀ (vI28 : IV) (x3 : Int32) (t0 : Int32) (t1 : Int32) (H : Heap) (locs : List Loc) (ls : Array Slot), wp_L_beyond_49 Q vI28 x3 t0 t1 → Wd D A s.heap (i28W t aI28 vI28) H locs → lv_has ls 5 [(2, .ref aI28), (3, .int x3)] → W p l e ({ frames := 0, cells := 0, slots := 0, locals := 0 } : Room) s m args below meth c H locs 0 0 (Ei below args s A D (fun (u : IV) => (i28W t aI28 u)) (fun (r : Int32) (u : IV) => Q r u) 0 0) (F0 m 49 ls [.int t1, .int t0]) := by
  intro vI28 x3 t0 t1 H locs ls h hw hl
  have hx := X.1.1
  have hb := X.1.2.1
  refine lv_iadd hx hb dL_beyond_49 ?_
  refine lv_topi (fun x4_4 ex4_4 => ?_)
  replace h := h x4_4 ex4_4
  refine lv_istore (lv' := [(4, .int x4_4), (2, .ref aI28), (3, .int x3)]) hx hb dL_beyond_50 hl (by decide) rfl (fun ls hl => ?_)
  refine lv_iload_n hx hb dL_beyond_52 rfl (lv_at hl 2 rfl) ?_
  refine lv_if_lt (tgt := 76) hx hb dL_beyond_53 (by decide) (fun c_8 => ?_) (fun c_8 => ?_)
  · replace h := h.1 c_8
    refine lv_iconst (v := (-1)) hx hb dL_beyond_76 (by decide) ?_
    refine lv_goto (tgt := 88) hx hb dL_beyond_77 (by decide) ?_
    exact e_i (w1 := (fun (u : IV) => (i28W t aI28 u))) X (vI28) hw h dL_beyond_88
  replace h := h.2 c_8
  refine lv_iload hx hb dL_beyond_56 (lv_at hl 0 rfl) ?_
  refine lv_if_lt (tgt := 76) hx hb dL_beyond_58 (by decide) (fun c_7 => ?_) (fun c_7 => ?_)
  · replace h := h.1 c_7
    refine lv_iconst (v := (-1)) hx hb dL_beyond_76 (by decide) ?_
    refine lv_goto (tgt := 88) hx hb dL_beyond_77 (by decide) ?_
    exact e_i (w1 := (fun (u : IV) => (i28W t aI28 u))) X (vI28) hw h dL_beyond_88
  replace h := h.2 c_7
  refine lv_iload_n hx hb dL_beyond_61 rfl (lv_at hl 2 rfl) ?_
  refine lv_aload_n hx hb dL_beyond_62 rfl (lv_at hl 1 rfl) ?_
  refine lv_iconst (v := 1) hx hb dL_beyond_63 (by decide) ?_
  refine r_iald (v := (vI28 1)) X hw 0 rfl (vpl rfl) rfl dL_beyond_64 ?_
  refine lv_icmp_eq (tgt := 76) hx hb dL_beyond_65 (by decide) (fun c_6 => ?_) (fun c_6 => ?_)
  · replace h := h.1 c_6
    refine lv_iconst (v := (-1)) hx hb dL_beyond_76 (by decide) ?_
    refine lv_goto (tgt := 88) hx hb dL_beyond_77 (by decide) ?_
    exact e_i (w1 := (fun (u : IV) => (i28W t aI28 u))) X (vI28) hw h dL_beyond_88
  replace h := h.2 c_6
  refine lv_iload hx hb dL_beyond_68 (lv_at hl 0 rfl) ?_
  refine lv_aload_n hx hb dL_beyond_70 rfl (lv_at hl 1 rfl) ?_
  refine lv_iconst (v := 0) hx hb dL_beyond_71 (by decide) ?_
  refine r_iald (v := (vI28 0)) X hw 0 rfl (vpl rfl) rfl dL_beyond_72 ?_
  refine lv_icmp_ne (tgt := 80) hx hb dL_beyond_73 (by decide) (fun c_5 => ?_) (fun c_5 => ?_)
  · replace h := h.1 c_5
    refine lv_iload hx hb dL_beyond_80 (lv_at hl 0 rfl) ?_
    refine lv_aload_n hx hb dL_beyond_82 rfl (lv_at hl 1 rfl) ?_
    refine lv_iconst (v := 1) hx hb dL_beyond_83 (by decide) ?_
    refine r_iald (v := (vI28 1)) X hw 0 rfl (vpl rfl) rfl dL_beyond_84 ?_
    refine lv_imul hx hb dL_beyond_85 ?_
    refine lv_iload_n hx hb dL_beyond_86 rfl (lv_at hl 2 rfl) ?_
    refine lv_iadd hx hb dL_beyond_87 ?_
    exact e_i (w1 := (fun (u : IV) => (i28W t aI28 u))) X (vI28) hw h dL_beyond_88
  replace h := h.2 c_5
  refine lv_iconst (v := (-1)) hx hb dL_beyond_76 (by decide) ?_
  refine lv_goto (tgt := 88) hx hb dL_beyond_77 (by decide) ?_
  exact e_i (w1 := (fun (u : IV) => (i28W t aI28 u))) X (vI28) hw h dL_beyond_88
set_option maxHeartbeats 4000000 in
set_option maxRecDepth 100000 in
theorem k_L_beyond_24 {p : Program} {l : Launch} {e : Env} {s : State} {m : MethodId} {below : List Frame} {meth : Method} {c : Code} {args : Array Value} {D : va_G} {t : T3} {A : Nat → Prop} (X : Cx p s m meth c args cL_beyond 5 (some .int) RL wsL_beyond D t A) (aI28 : Nat) {Q : Int32 → IV → Prop}  : ∀ (vI28 : IV) (x0 : Int32) (x1 : Int32) (t0 : Int32) (t1 : Int32) (H : Heap) (locs : List Loc) (ls : Array Slot), wp_L_beyond_24 Q vI28 x0 x1 t0 t1 → Wd D A s.heap (i28W t aI28 vI28) H locs → lv_has ls 5 [(0, .int x0), (1, .int x1), (2, .ref aI28)] → W p l e ({ frames := 0, cells := 0, slots := 0, locals := 0 } : Room) s m args below meth c H locs 0 0 (Ei below args s A D (fun (u : IV) => (i28W t aI28 u)) (fun (r : Int32) (u : IV) => Q r u) 0 0) (F0 m 24 ls [.int t1, .int t0]) := by
  intro vI28 x0 x1 t0 t1 H locs ls h hw hl
  have hx := X.1.1
  have hb := X.1.2.1
  refine lv_iadd hx hb dL_beyond_24 ?_
  refine lv_topi (fun x3_2 ex3_2 => ?_)
  replace h := h x3_2 ex3_2
  refine lv_istore_n (lv' := [(3, .int x3_2), (0, .int x0), (1, .int x1), (2, .ref aI28)]) hx hb dL_beyond_25 rfl hl (by decide) rfl (fun ls hl => ?_)
  refine lv_iload_n hx hb dL_beyond_26 rfl (lv_at hl 1 rfl) ?_
  refine lv_aload_n hx hb dL_beyond_27 rfl (lv_at hl 3 rfl) ?_
  refine lv_iconst (v := 1) hx hb dL_beyond_28 (by decide) ?_
  refine r_iald (v := (vI28 1)) X hw 0 rfl (vpl rfl) rfl dL_beyond_29 ?_
  obtain ⟨hn_3, h⟩ := h
  refine lv_idiv hx hb dL_beyond_30 hn_3 ?_
  refine lv_iload_n hx hb dL_beyond_31 rfl (lv_at hl 2 rfl) ?_
  refine lv_iconst (v := 2) hx hb dL_beyond_32 (by decide) ?_
  refine lv_icmp_ne (tgt := 40) hx hb dL_beyond_33 (by decide) (fun c_10 => ?_) (fun c_10 => ?_)
  · replace h := h.1 c_10
    refine lv_iload_n hx hb dL_beyond_40 rfl (lv_at hl 2 rfl) ?_
    refine lv_if_ne (tgt := 48) hx hb dL_beyond_41 (by decide) (fun c_9 => ?_) (fun c_9 => ?_)
    · replace h := h.1 c_9
      refine lv_iconst (v := 0) hx hb dL_beyond_48 (by decide) ?_
      exact k_L_beyond_49 X aI28 _ _ _ _ _ _ _ h hw (lv_sub hl [3, 0] rfl)
    replace h := h.2 c_9
    refine lv_iconst (v := (-1)) hx hb dL_beyond_44 (by decide) ?_
    refine lv_goto (tgt := 49) hx hb dL_beyond_45 (by decide) ?_
    exact k_L_beyond_49 X aI28 _ _ _ _ _ _ _ h hw (lv_sub hl [3, 0] rfl)
  replace h := h.2 c_10
  refine lv_iconst (v := 1) hx hb dL_beyond_36 (by decide) ?_
  refine lv_goto (tgt := 49) hx hb dL_beyond_37 (by decide) ?_
  exact k_L_beyond_49 X aI28 _ _ _ _ _ _ _ h hw (lv_sub hl [3, 0] rfl)
set_option maxHeartbeats 4000000 in
set_option maxRecDepth 100000 in
theorem c_L_beyond (l : Launch) (D : va_G) (t : T3) (aI28 : Nat) (vI28 : IV) (p0 : Int32) (p1 : Int32) (Q : Int32 → IV → Prop) (h : wp_L_beyond vI28 p0 p1 Q) : Ct l yL_beyond wsL_beyond 0 0 0 0 [.int p0, .int p1, .ref aI28] D t (i28W t aI28 vI28) (fun sz => Qi D (i28W t aI28 vI28) (fun (u : IV) => (i28W t aI28 u)) (fun (r : Int32) (u : IV) => Q r u) sz) := by
  refine Ct.of (Qf := fun _ A => va_Qi (fun (r : Int32) (u : IV) => Q r u) (B1 D (fun (u : IV) => (i28W t aI28 u)) A) A) cL_beyond 5 (some .int) (by decide) rfl (Nat.le_of_ble_eq_true rfl) ?_
  intro p e s m below meth c A ls hAe hin X hw hl
  generalize ([.int p0, .int p1, .ref aI28] : List Value).toArray = args at X ⊢
  have hl : lv_has ls 5 [(0, .int p0), (1, .int p1), (2, .ref aI28)] := hl
  have hx := X.1.1
  have hb := X.1.2.1
  refine lv_iload_n hx hb dL_beyond_0 rfl (lv_at hl 0 rfl) ?_
  refine lv_aload_n hx hb dL_beyond_1 rfl (lv_at hl 2 rfl) ?_
  refine lv_iconst (v := 1) hx hb dL_beyond_2 (by decide) ?_
  refine r_iald (v := (vI28 1)) X hw 0 rfl (vpl rfl) rfl dL_beyond_3 ?_
  obtain ⟨hn_1, h⟩ := h
  refine r_irem hx hb dL_beyond_4 hn_1 ?_
  refine lv_iload_n hx hb dL_beyond_5 rfl (lv_at hl 1 rfl) ?_
  refine lv_iconst (v := 1) hx hb dL_beyond_6 (by decide) ?_
  refine lv_icmp_ne (tgt := 14) hx hb dL_beyond_7 (by decide) (fun c_12 => ?_) (fun c_12 => ?_)
  · replace h := h.1 c_12
    refine lv_iload_n hx hb dL_beyond_14 rfl (lv_at hl 1 rfl) ?_
    refine lv_iconst (v := 3) hx hb dL_beyond_15 (by decide) ?_
    refine lv_icmp_ne (tgt := 23) hx hb dL_beyond_16 (by decide) (fun c_11 => ?_) (fun c_11 => ?_)
    · replace h := h.1 c_11
      refine lv_iconst (v := 0) hx hb dL_beyond_23 (by decide) ?_
      exact k_L_beyond_24 X aI28 _ _ _ _ _ _ _ _ h hw hl
    replace h := h.2 c_11
    refine lv_iconst (v := (-1)) hx hb dL_beyond_19 (by decide) ?_
    refine lv_goto (tgt := 24) hx hb dL_beyond_20 (by decide) ?_
    exact k_L_beyond_24 X aI28 _ _ _ _ _ _ _ _ h hw hl
  replace h := h.2 c_12
  refine lv_iconst (v := 1) hx hb dL_beyond_10 (by decide) ?_
  refine lv_goto (tgt := 24) hx hb dL_beyond_11 (by decide) ?_
  exact k_L_beyond_24 X aI28 _ _ _ _ _ _ _ _ h hw hl
/-! L_fits -/
set_option maxHeartbeats 4000000 in
set_option maxRecDepth 100000 in
theorem k_L_fits_203 {p : Program} {l : Launch} {e : Env} {s : State} {m : MethodId} {below : List Frame} {meth : Method} {c : Code} {args : Array Value} {D : va_G} {t : T3} {A : Nat → Prop} (X : Cx p s m meth c args cL_fits 11 (some .int) RL wsL_fits D t A) (aI28 : Nat) (aI48 : Nat) {P : IV → IV → Int32 → Int32 → Int32 → Int32 → Prop} {K211 : IV → IV → Int32 → Prop} {Q : Int32 → IV → IV → Prop} (hP : ∀ (vI28 : IV) (vI48 : IV) (x0 : Int32) (x1 : Int32) (x4 : Int32) (x5 : Int32) (H : Heap) (locs : List Loc) (ls : Array Slot), P vI28 vI48 x0 x1 x4 x5 → Wd D A s.heap (i28W t aI28 vI28 ++ (i48W t aI48 vI48)) H locs → lv_has ls 11 [(0, .int x0), (1, .int x1), (2, .ref aI28), (3, .ref aI48), (4, .int x4), (5, .int x5)] → W p l e ({ frames := 1, cells := 0, slots := 0, locals := 26 } : Room) s m args below meth c H locs 0 0 (Ei below args s A D (fun (u : IV × IV) => (i28W t aI28 u.1 ++ (i48W t aI48 u.2))) (fun (r : Int32) (u : IV × IV) => Q r u.1 u.2) 0 0) (F0 m 7 ls [])) (hK211 : ∀ (vI28 : IV) (vI48 : IV) (x4 : Int32) (H : Heap) (locs : List Loc) (ls : Array Slot), K211 vI28 vI48 x4 → Wd D A s.heap (i28W t aI28 vI28 ++ (i48W t aI48 vI48)) H locs → lv_has ls 11 [(4, .int x4)] → W p l e ({ frames := 1, cells := 0, slots := 0, locals := 26 } : Room) s m args below meth c H locs 0 0 (Ei below args s A D (fun (u : IV × IV) => (i28W t aI28 u.1 ++ (i48W t aI48 u.2))) (fun (r : Int32) (u : IV × IV) => Q r u.1 u.2) 0 0) (F0 m 211 ls [])) : ∀ (vI28 : IV) (vI48 : IV) (x0 : Int32) (x1 : Int32) (x5 : Int32) (t0 : Int32) (H : Heap) (locs : List Loc) (ls : Array Slot), wp_L_fits_203 P K211 Q vI28 vI48 x0 x1 x5 t0 → Wd D A s.heap (i28W t aI28 vI28 ++ (i48W t aI48 vI48)) H locs → lv_has ls 11 [(0, .int x0), (1, .int x1), (2, .ref aI28), (3, .ref aI48), (5, .int x5)] → W p l e ({ frames := 1, cells := 0, slots := 0, locals := 26 } : Room) s m args below meth c H locs 0 0 (Ei below args s A D (fun (u : IV × IV) => (i28W t aI28 u.1 ++ (i48W t aI48 u.2))) (fun (r : Int32) (u : IV × IV) => Q r u.1 u.2) 0 0) (F0 m 203 ls [.int t0]) := by
  intro vI28 vI48 x0 x1 x5 t0 H locs ls h hw hl
  have hx := X.1.1
  have hb := X.1.2.1
  refine lv_istore (lv' := [(4, .int t0), (0, .int x0), (1, .int x1), (2, .ref aI28), (3, .ref aI48), (5, .int x5)]) hx hb dL_fits_203 hl (by decide) rfl (fun ls hl => ?_)
  obtain ⟨x5_8, ex5_8⟩ : ∃ z : Int32, z = x5 + 1 := ⟨_, rfl⟩
  replace h := h x5_8 ex5_8
  refine lv_iinc (v := x5_8) (lv' := [(5, .int x5_8), (4, .int t0), (0, .int x0), (1, .int x1), (2, .ref aI28), (3, .ref aI48)]) hx hb dL_fits_205 hl (k := 5) rfl (by rw [ex5_8]; rfl) (by decide) rfl (fun ls hl => ?_)
  refine lv_goto (tgt := 7) hx hb dL_fits_208 (by decide) ?_
  exact hP _ _ _ _ _ _ _ _ _ h hw (lv_sub hl [2, 3, 4, 5, 1, 0] rfl)
set_option maxHeartbeats 4000000 in
set_option maxRecDepth 100000 in
theorem k_L_fits_189 {p : Program} {l : Launch} {e : Env} {s : State} {m : MethodId} {below : List Frame} {meth : Method} {c : Code} {args : Array Value} {D : va_G} {t : T3} {A : Nat → Prop} (X : Cx p s m meth c args cL_fits 11 (some .int) RL wsL_fits D t A) (aI28 : Nat) (aI48 : Nat) {P : IV → IV → Int32 → Int32 → Int32 → Int32 → Prop} {K211 : IV → IV → Int32 → Prop} {Q : Int32 → IV → IV → Prop} (hP : ∀ (vI28 : IV) (vI48 : IV) (x0 : Int32) (x1 : Int32) (x4 : Int32) (x5 : Int32) (H : Heap) (locs : List Loc) (ls : Array Slot), P vI28 vI48 x0 x1 x4 x5 → Wd D A s.heap (i28W t aI28 vI28 ++ (i48W t aI48 vI48)) H locs → lv_has ls 11 [(0, .int x0), (1, .int x1), (2, .ref aI28), (3, .ref aI48), (4, .int x4), (5, .int x5)] → W p l e ({ frames := 1, cells := 0, slots := 0, locals := 26 } : Room) s m args below meth c H locs 0 0 (Ei below args s A D (fun (u : IV × IV) => (i28W t aI28 u.1 ++ (i48W t aI48 u.2))) (fun (r : Int32) (u : IV × IV) => Q r u.1 u.2) 0 0) (F0 m 7 ls [])) (hK211 : ∀ (vI28 : IV) (vI48 : IV) (x4 : Int32) (H : Heap) (locs : List Loc) (ls : Array Slot), K211 vI28 vI48 x4 → Wd D A s.heap (i28W t aI28 vI28 ++ (i48W t aI48 vI48)) H locs → lv_has ls 11 [(4, .int x4)] → W p l e ({ frames := 1, cells := 0, slots := 0, locals := 26 } : Room) s m args below meth c H locs 0 0 (Ei below args s A D (fun (u : IV × IV) => (i28W t aI28 u.1 ++ (i48W t aI48 u.2))) (fun (r : Int32) (u : IV × IV) => Q r u.1 u.2) 0 0) (F0 m 211 ls [])) : ∀ (vI28 : IV) (vI48 : IV) (x0 : Int32) (x1 : Int32) (x4 : Int32) (x5 : Int32) (x9 : Int32) (H : Heap) (locs : List Loc) (ls : Array Slot), wp_L_fits_189 P K211 Q vI28 vI48 x0 x1 x4 x5 x9 → Wd D A s.heap (i28W t aI28 vI28 ++ (i48W t aI48 vI48)) H locs → lv_has ls 11 [(0, .int x0), (1, .int x1), (2, .ref aI28), (3, .ref aI48), (4, .int x4), (5, .int x5), (9, .int x9)] → W p l e ({ frames := 1, cells := 0, slots := 0, locals := 26 } : Room) s m args below meth c H locs 0 0 (Ei below args s A D (fun (u : IV × IV) => (i28W t aI28 u.1 ++ (i48W t aI48 u.2))) (fun (r : Int32) (u : IV × IV) => Q r u.1 u.2) 0 0) (F0 m 189 ls []) := by
  intro vI28 vI48 x0 x1 x4 x5 x9 H locs ls h hw hl
  have hx := X.1.1
  have hb := X.1.2.1
  refine lv_iload hx hb dL_fits_189 (lv_at hl 6 rfl) ?_
  refine lv_iload hx hb dL_fits_191 (lv_at hl 4 rfl) ?_
  refine lv_icmp_ge (tgt := 201) hx hb dL_fits_193 (by decide) (fun c_9 => ?_) (fun c_9 => ?_)
  · replace h := h.1 c_9
    refine lv_iload hx hb dL_fits_201 (lv_at hl 4 rfl) ?_
    exact k_L_fits_203 X aI28 aI48 hP hK211 _ _ _ _ _ _ _ _ _ h hw (lv_sub hl [0, 1, 2, 3, 5] rfl)
  replace h := h.2 c_9
  refine lv_iload hx hb dL_fits_196 (lv_at hl 6 rfl) ?_
  refine lv_goto (tgt := 203) hx hb dL_fits_198 (by decide) ?_
  exact k_L_fits_203 X aI28 aI48 hP hK211 _ _ _ _ _ _ _ _ _ h hw (lv_sub hl [0, 1, 2, 3, 5] rfl)
set_option maxHeartbeats 4000000 in
set_option maxRecDepth 100000 in
theorem k_L_fits_187 {p : Program} {l : Launch} {e : Env} {s : State} {m : MethodId} {below : List Frame} {meth : Method} {c : Code} {args : Array Value} {D : va_G} {t : T3} {A : Nat → Prop} (X : Cx p s m meth c args cL_fits 11 (some .int) RL wsL_fits D t A) (aI28 : Nat) (aI48 : Nat) {P : IV → IV → Int32 → Int32 → Int32 → Int32 → Prop} {K211 : IV → IV → Int32 → Prop} {Q : Int32 → IV → IV → Prop} (hP : ∀ (vI28 : IV) (vI48 : IV) (x0 : Int32) (x1 : Int32) (x4 : Int32) (x5 : Int32) (H : Heap) (locs : List Loc) (ls : Array Slot), P vI28 vI48 x0 x1 x4 x5 → Wd D A s.heap (i28W t aI28 vI28 ++ (i48W t aI48 vI48)) H locs → lv_has ls 11 [(0, .int x0), (1, .int x1), (2, .ref aI28), (3, .ref aI48), (4, .int x4), (5, .int x5)] → W p l e ({ frames := 1, cells := 0, slots := 0, locals := 26 } : Room) s m args below meth c H locs 0 0 (Ei below args s A D (fun (u : IV × IV) => (i28W t aI28 u.1 ++ (i48W t aI48 u.2))) (fun (r : Int32) (u : IV × IV) => Q r u.1 u.2) 0 0) (F0 m 7 ls [])) (hK211 : ∀ (vI28 : IV) (vI48 : IV) (x4 : Int32) (H : Heap) (locs : List Loc) (ls : Array Slot), K211 vI28 vI48 x4 → Wd D A s.heap (i28W t aI28 vI28 ++ (i48W t aI48 vI48)) H locs → lv_has ls 11 [(4, .int x4)] → W p l e ({ frames := 1, cells := 0, slots := 0, locals := 26 } : Room) s m args below meth c H locs 0 0 (Ei below args s A D (fun (u : IV × IV) => (i28W t aI28 u.1 ++ (i48W t aI48 u.2))) (fun (r : Int32) (u : IV × IV) => Q r u.1 u.2) 0 0) (F0 m 211 ls [])) : ∀ (vI28 : IV) (vI48 : IV) (x0 : Int32) (x1 : Int32) (x4 : Int32) (x5 : Int32) (t0 : Int32) (H : Heap) (locs : List Loc) (ls : Array Slot), wp_L_fits_187 P K211 Q vI28 vI48 x0 x1 x4 x5 t0 → Wd D A s.heap (i28W t aI28 vI28 ++ (i48W t aI48 vI48)) H locs → lv_has ls 11 [(0, .int x0), (1, .int x1), (2, .ref aI28), (3, .ref aI48), (4, .int x4), (5, .int x5)] → W p l e ({ frames := 1, cells := 0, slots := 0, locals := 26 } : Room) s m args below meth c H locs 0 0 (Ei below args s A D (fun (u : IV × IV) => (i28W t aI28 u.1 ++ (i48W t aI48 u.2))) (fun (r : Int32) (u : IV × IV) => Q r u.1 u.2) 0 0) (F0 m 187 ls [.int t0]) := by
  intro vI28 vI48 x0 x1 x4 x5 t0 H locs ls h hw hl
  have hx := X.1.1
  have hb := X.1.2.1
  refine lv_istore (lv' := [(9, .int t0), (0, .int x0), (1, .int x1), (2, .ref aI28), (3, .ref aI48), (4, .int x4), (5, .int x5)]) hx hb dL_fits_187 hl (by decide) rfl (fun ls hl => ?_)
  exact k_L_fits_189 X aI28 aI48 hP hK211 _ _ _ _ _ _ _ _ _ _ h hw (lv_sub hl [1, 2, 3, 4, 5, 6, 0] rfl)
set_option maxHeartbeats 4000000 in
set_option maxRecDepth 100000 in
theorem k_L_fits_185 {p : Program} {l : Launch} {e : Env} {s : State} {m : MethodId} {below : List Frame} {meth : Method} {c : Code} {args : Array Value} {D : va_G} {t : T3} {A : Nat → Prop} (X : Cx p s m meth c args cL_fits 11 (some .int) RL wsL_fits D t A) (aI28 : Nat) (aI48 : Nat) {P : IV → IV → Int32 → Int32 → Int32 → Int32 → Prop} {K211 : IV → IV → Int32 → Prop} {Q : Int32 → IV → IV → Prop} (hP : ∀ (vI28 : IV) (vI48 : IV) (x0 : Int32) (x1 : Int32) (x4 : Int32) (x5 : Int32) (H : Heap) (locs : List Loc) (ls : Array Slot), P vI28 vI48 x0 x1 x4 x5 → Wd D A s.heap (i28W t aI28 vI28 ++ (i48W t aI48 vI48)) H locs → lv_has ls 11 [(0, .int x0), (1, .int x1), (2, .ref aI28), (3, .ref aI48), (4, .int x4), (5, .int x5)] → W p l e ({ frames := 1, cells := 0, slots := 0, locals := 26 } : Room) s m args below meth c H locs 0 0 (Ei below args s A D (fun (u : IV × IV) => (i28W t aI28 u.1 ++ (i48W t aI48 u.2))) (fun (r : Int32) (u : IV × IV) => Q r u.1 u.2) 0 0) (F0 m 7 ls [])) (hK211 : ∀ (vI28 : IV) (vI48 : IV) (x4 : Int32) (H : Heap) (locs : List Loc) (ls : Array Slot), K211 vI28 vI48 x4 → Wd D A s.heap (i28W t aI28 vI28 ++ (i48W t aI48 vI48)) H locs → lv_has ls 11 [(4, .int x4)] → W p l e ({ frames := 1, cells := 0, slots := 0, locals := 26 } : Room) s m args below meth c H locs 0 0 (Ei below args s A D (fun (u : IV × IV) => (i28W t aI28 u.1 ++ (i48W t aI48 u.2))) (fun (r : Int32) (u : IV × IV) => Q r u.1 u.2) 0 0) (F0 m 211 ls [])) : ∀ (vI28 : IV) (vI48 : IV) (x0 : Int32) (x1 : Int32) (x4 : Int32) (x5 : Int32) (H : Heap) (locs : List Loc) (ls : Array Slot), wp_L_fits_185 P K211 Q vI28 vI48 x0 x1 x4 x5 → Wd D A s.heap (i28W t aI28 vI28 ++ (i48W t aI48 vI48)) H locs → lv_has ls 11 [(0, .int x0), (1, .int x1), (2, .ref aI28), (3, .ref aI48), (4, .int x4), (5, .int x5)] → W p l e ({ frames := 1, cells := 0, slots := 0, locals := 26 } : Room) s m args below meth c H locs 0 0 (Ei below args s A D (fun (u : IV × IV) => (i28W t aI28 u.1 ++ (i48W t aI48 u.2))) (fun (r : Int32) (u : IV × IV) => Q r u.1 u.2) 0 0) (F0 m 185 ls []) := by
  intro vI28 vI48 x0 x1 x4 x5 H locs ls h hw hl
  have hx := X.1.1
  have hb := X.1.2.1
  refine lv_bipush (v := 9) hx hb dL_fits_185 (by decide) ?_
  exact k_L_fits_187 X aI28 aI48 hP hK211 _ _ _ _ _ _ _ _ _ _ h hw hl
set_option maxHeartbeats 4000000 in
set_option maxRecDepth 100000 in
theorem k_L_fits_180 {p : Program} {l : Launch} {e : Env} {s : State} {m : MethodId} {below : List Frame} {meth : Method} {c : Code} {args : Array Value} {D : va_G} {t : T3} {A : Nat → Prop} (X : Cx p s m meth c args cL_fits 11 (some .int) RL wsL_fits D t A) (aI28 : Nat) (aI48 : Nat) {P : IV → IV → Int32 → Int32 → Int32 → Int32 → Prop} {K211 : IV → IV → Int32 → Prop} {Q : Int32 → IV → IV → Prop} (hP : ∀ (vI28 : IV) (vI48 : IV) (x0 : Int32) (x1 : Int32) (x4 : Int32) (x5 : Int32) (H : Heap) (locs : List Loc) (ls : Array Slot), P vI28 vI48 x0 x1 x4 x5 → Wd D A s.heap (i28W t aI28 vI28 ++ (i48W t aI48 vI48)) H locs → lv_has ls 11 [(0, .int x0), (1, .int x1), (2, .ref aI28), (3, .ref aI48), (4, .int x4), (5, .int x5)] → W p l e ({ frames := 1, cells := 0, slots := 0, locals := 26 } : Room) s m args below meth c H locs 0 0 (Ei below args s A D (fun (u : IV × IV) => (i28W t aI28 u.1 ++ (i48W t aI48 u.2))) (fun (r : Int32) (u : IV × IV) => Q r u.1 u.2) 0 0) (F0 m 7 ls [])) (hK211 : ∀ (vI28 : IV) (vI48 : IV) (x4 : Int32) (H : Heap) (locs : List Loc) (ls : Array Slot), K211 vI28 vI48 x4 → Wd D A s.heap (i28W t aI28 vI28 ++ (i48W t aI48 vI48)) H locs → lv_has ls 11 [(4, .int x4)] → W p l e ({ frames := 1, cells := 0, slots := 0, locals := 26 } : Room) s m args below meth c H locs 0 0 (Ei below args s A D (fun (u : IV × IV) => (i28W t aI28 u.1 ++ (i48W t aI48 u.2))) (fun (r : Int32) (u : IV × IV) => Q r u.1 u.2) 0 0) (F0 m 211 ls [])) : ∀ (vI28 : IV) (vI48 : IV) (x0 : Int32) (x1 : Int32) (x4 : Int32) (x5 : Int32) (H : Heap) (locs : List Loc) (ls : Array Slot), wp_L_fits_180 P K211 Q vI28 vI48 x0 x1 x4 x5 → Wd D A s.heap (i28W t aI28 vI28 ++ (i48W t aI48 vI48)) H locs → lv_has ls 11 [(0, .int x0), (1, .int x1), (2, .ref aI28), (3, .ref aI48), (4, .int x4), (5, .int x5)] → W p l e ({ frames := 1, cells := 0, slots := 0, locals := 26 } : Room) s m args below meth c H locs 0 0 (Ei below args s A D (fun (u : IV × IV) => (i28W t aI28 u.1 ++ (i48W t aI48 u.2))) (fun (r : Int32) (u : IV × IV) => Q r u.1 u.2) 0 0) (F0 m 180 ls []) := by
  intro vI28 vI48 x0 x1 x4 x5 H locs ls h hw hl
  have hx := X.1.1
  have hb := X.1.2.1
  refine lv_bipush (v := 6) hx hb dL_fits_180 (by decide) ?_
  refine lv_goto (tgt := 187) hx hb dL_fits_182 (by decide) ?_
  exact k_L_fits_187 X aI28 aI48 hP hK211 _ _ _ _ _ _ _ _ _ _ h hw hl
set_option maxHeartbeats 4000000 in
set_option maxRecDepth 100000 in
theorem k_L_fits_168 {p : Program} {l : Launch} {e : Env} {s : State} {m : MethodId} {below : List Frame} {meth : Method} {c : Code} {args : Array Value} {D : va_G} {t : T3} {A : Nat → Prop} (X : Cx p s m meth c args cL_fits 11 (some .int) RL wsL_fits D t A) (aI28 : Nat) (aI48 : Nat) {P : IV → IV → Int32 → Int32 → Int32 → Int32 → Prop} {K211 : IV → IV → Int32 → Prop} {Q : Int32 → IV → IV → Prop} (hP : ∀ (vI28 : IV) (vI48 : IV) (x0 : Int32) (x1 : Int32) (x4 : Int32) (x5 : Int32) (H : Heap) (locs : List Loc) (ls : Array Slot), P vI28 vI48 x0 x1 x4 x5 → Wd D A s.heap (i28W t aI28 vI28 ++ (i48W t aI48 vI48)) H locs → lv_has ls 11 [(0, .int x0), (1, .int x1), (2, .ref aI28), (3, .ref aI48), (4, .int x4), (5, .int x5)] → W p l e ({ frames := 1, cells := 0, slots := 0, locals := 26 } : Room) s m args below meth c H locs 0 0 (Ei below args s A D (fun (u : IV × IV) => (i28W t aI28 u.1 ++ (i48W t aI48 u.2))) (fun (r : Int32) (u : IV × IV) => Q r u.1 u.2) 0 0) (F0 m 7 ls [])) (hK211 : ∀ (vI28 : IV) (vI48 : IV) (x4 : Int32) (H : Heap) (locs : List Loc) (ls : Array Slot), K211 vI28 vI48 x4 → Wd D A s.heap (i28W t aI28 vI28 ++ (i48W t aI48 vI48)) H locs → lv_has ls 11 [(4, .int x4)] → W p l e ({ frames := 1, cells := 0, slots := 0, locals := 26 } : Room) s m args below meth c H locs 0 0 (Ei below args s A D (fun (u : IV × IV) => (i28W t aI28 u.1 ++ (i48W t aI48 u.2))) (fun (r : Int32) (u : IV × IV) => Q r u.1 u.2) 0 0) (F0 m 211 ls [])) : ∀ (vI28 : IV) (vI48 : IV) (x0 : Int32) (x1 : Int32) (x4 : Int32) (x5 : Int32) (x7 : Int32) (H : Heap) (locs : List Loc) (ls : Array Slot), wp_L_fits_168 P K211 Q vI28 vI48 x0 x1 x4 x5 x7 → Wd D A s.heap (i28W t aI28 vI28 ++ (i48W t aI48 vI48)) H locs → lv_has ls 11 [(0, .int x0), (1, .int x1), (2, .ref aI28), (3, .ref aI48), (4, .int x4), (5, .int x5), (7, .int x7)] → W p l e ({ frames := 1, cells := 0, slots := 0, locals := 26 } : Room) s m args below meth c H locs 0 0 (Ei below args s A D (fun (u : IV × IV) => (i28W t aI28 u.1 ++ (i48W t aI48 u.2))) (fun (r : Int32) (u : IV × IV) => Q r u.1 u.2) 0 0) (F0 m 168 ls []) := by
  intro vI28 vI48 x0 x1 x4 x5 x7 H locs ls h hw hl
  have hx := X.1.1
  have hb := X.1.2.1
  refine lv_aload_n hx hb dL_fits_168 rfl (lv_at hl 2 rfl) ?_
  refine lv_iconst (v := 2) hx hb dL_fits_169 (by decide) ?_
  refine r_iald (v := (vI28 2)) X hw 0 rfl (vpl rfl) rfl dL_fits_170 ?_
  refine lv_iconst (v := 2) hx hb dL_fits_171 (by decide) ?_
  refine lv_icmp_ne (tgt := 185) hx hb dL_fits_172 (by decide) (fun c_17 => ?_) (fun c_17 => ?_)
  · replace h := h.1 c_17
    exact k_L_fits_185 X aI28 aI48 hP hK211 _ _ _ _ _ _ _ _ _ h hw (lv_sub hl [0, 1, 2, 3, 4, 5] rfl)
  replace h := h.2 c_17
  refine lv_iload hx hb dL_fits_175 (lv_at hl 6 rfl) ?_
  refine lv_if_ne (tgt := 185) hx hb dL_fits_177 (by decide) (fun c_16 => ?_) (fun c_16 => ?_)
  · replace h := h.1 c_16
    exact k_L_fits_185 X aI28 aI48 hP hK211 _ _ _ _ _ _ _ _ _ h hw (lv_sub hl [0, 1, 2, 3, 4, 5] rfl)
  replace h := h.2 c_16
  exact k_L_fits_180 X aI28 aI48 hP hK211 _ _ _ _ _ _ _ _ _ h hw (lv_sub hl [0, 1, 2, 3, 4, 5] rfl)
set_option maxHeartbeats 4000000 in
set_option maxRecDepth 100000 in
theorem k_L_fits_111 {p : Program} {l : Launch} {e : Env} {s : State} {m : MethodId} {below : List Frame} {meth : Method} {c : Code} {args : Array Value} {D : va_G} {t : T3} {A : Nat → Prop} (X : Cx p s m meth c args cL_fits 11 (some .int) RL wsL_fits D t A) (aI28 : Nat) (aI48 : Nat) {P : IV → IV → Int32 → Int32 → Int32 → Int32 → Prop} {K211 : IV → IV → Int32 → Prop} {Q : Int32 → IV → IV → Prop} (hP : ∀ (vI28 : IV) (vI48 : IV) (x0 : Int32) (x1 : Int32) (x4 : Int32) (x5 : Int32) (H : Heap) (locs : List Loc) (ls : Array Slot), P vI28 vI48 x0 x1 x4 x5 → Wd D A s.heap (i28W t aI28 vI28 ++ (i48W t aI48 vI48)) H locs → lv_has ls 11 [(0, .int x0), (1, .int x1), (2, .ref aI28), (3, .ref aI48), (4, .int x4), (5, .int x5)] → W p l e ({ frames := 1, cells := 0, slots := 0, locals := 26 } : Room) s m args below meth c H locs 0 0 (Ei below args s A D (fun (u : IV × IV) => (i28W t aI28 u.1 ++ (i48W t aI48 u.2))) (fun (r : Int32) (u : IV × IV) => Q r u.1 u.2) 0 0) (F0 m 7 ls [])) (hK211 : ∀ (vI28 : IV) (vI48 : IV) (x4 : Int32) (H : Heap) (locs : List Loc) (ls : Array Slot), K211 vI28 vI48 x4 → Wd D A s.heap (i28W t aI28 vI28 ++ (i48W t aI48 vI48)) H locs → lv_has ls 11 [(4, .int x4)] → W p l e ({ frames := 1, cells := 0, slots := 0, locals := 26 } : Room) s m args below meth c H locs 0 0 (Ei below args s A D (fun (u : IV × IV) => (i28W t aI28 u.1 ++ (i48W t aI48 u.2))) (fun (r : Int32) (u : IV × IV) => Q r u.1 u.2) 0 0) (F0 m 211 ls [])) : ∀ (vI28 : IV) (vI48 : IV) (x0 : Int32) (x1 : Int32) (x4 : Int32) (x5 : Int32) (x6 : Int32) (x7 : Int32) (x8 : Int32) (t0 : Int32) (H : Heap) (locs : List Loc) (ls : Array Slot), wp_L_fits_111 P K211 Q vI28 vI48 x0 x1 x4 x5 x6 x7 x8 t0 → Wd D A s.heap (i28W t aI28 vI28 ++ (i48W t aI48 vI48)) H locs → lv_has ls 11 [(0, .int x0), (1, .int x1), (2, .ref aI28), (3, .ref aI48), (4, .int x4), (5, .int x5), (6, .int x6), (7, .int x7), (8, .int x8)] → W p l e ({ frames := 1, cells := 0, slots := 0, locals := 26 } : Room) s m args below meth c H locs 0 0 (Ei below args s A D (fun (u : IV × IV) => (i28W t aI28 u.1 ++ (i48W t aI48 u.2))) (fun (r : Int32) (u : IV × IV) => Q r u.1 u.2) 0 0) (F0 m 111 ls [.int t0]) := by
  intro vI28 vI48 x0 x1 x4 x5 x6 x7 x8 t0 H locs ls h hw hl
  have hx := X.1.1
  have hb := X.1.2.1
  refine lv_istore (lv' := [(10, .int t0), (0, .int x0), (1, .int x1), (2, .ref aI28), (3, .ref aI48), (4, .int x4), (5, .int x5), (6, .int x6), (7, .int x7), (8, .int x8)]) hx hb dL_fits_111 hl (by decide) rfl (fun ls hl => ?_)
  refine lv_aload_n hx hb dL_fits_113 rfl (lv_at hl 3 rfl) ?_
  refine lv_iconst (v := 4) hx hb dL_fits_114 (by decide) ?_
  refine lv_iload hx hb dL_fits_115 (lv_at hl 9 rfl) ?_
  refine lv_iadd hx hb dL_fits_117 ?_
  obtain ⟨hi_10, h⟩ := h
  refine r_iald (v := (vI28 (Int32.toNatClampNeg (4 + x8)))) X hw 0 rfl hi_10 rfl dL_fits_118 ?_
  refine lv_iload hx hb dL_fits_119 (lv_at hl 0 rfl) ?_
  refine lv_iconst (v := 0) hx hb dL_fits_121 (by decide) ?_
  refine lv_aload_n hx hb dL_fits_122 rfl (lv_at hl 4 rfl) ?_
  refine r_ci X hw (pm_r pm_0) (wn := fun (u : IV) => (i28W t aI28 vI28 ++ (i48W t aI48 u))) (fun u => (pm_r pm_0).symm) (r_runS X hw (c_L_color l D t aI48 vI48 (vI28 (Int32.toNatClampNeg (4 + x8))) t0 0 _ h) (pm_r pm_0) (va_cwS 4 X.1.2.2.2.2 gL_fits_L_color rfl rfl rfl (by decide +kernel) ⟨Nat.le_of_ble_eq_true rfl, Nat.le_of_ble_eq_true rfl⟩) rfl hl rfl (Nat.le_of_ble_eq_true rfl) dL_fits_123 ⟨Nat.le_of_ble_eq_true rfl, Nat.le_of_ble_eq_true rfl⟩) (fun r_12 u H locs h hw => ?_)
  obtain ⟨vI48_11, rfl⟩ : ∃ z, z = u := ⟨_, rfl⟩
  refine lv_iload hx hb dL_fits_126 (lv_at hl 7 rfl) ?_
  refine lv_icmp_eq (tgt := 135) hx hb dL_fits_128 (by decide) (fun c_21 => ?_) (fun c_21 => ?_)
  · replace h := h.1 c_21
    refine lv_aload_n hx hb dL_fits_135 rfl (lv_at hl 3 rfl) ?_
    refine lv_iconst (v := 4) hx hb dL_fits_136 (by decide) ?_
    refine lv_iload hx hb dL_fits_137 (lv_at hl 9 rfl) ?_
    refine lv_iadd hx hb dL_fits_139 ?_
    obtain ⟨hi_13, h⟩ := h
    refine r_iald (v := (vI28 (Int32.toNatClampNeg (4 + x8)))) X hw 0 rfl hi_13 rfl dL_fits_140 ?_
    refine lv_iload hx hb dL_fits_141 (lv_at hl 0 rfl) ?_
    refine lv_iconst (v := 1) hx hb dL_fits_143 (by decide) ?_
    refine lv_aload_n hx hb dL_fits_144 rfl (lv_at hl 4 rfl) ?_
    refine r_ci X hw (pm_r pm_0) (wn := fun (u : IV) => (i28W t aI28 vI28 ++ (i48W t aI48 u))) (fun u => (pm_r pm_0).symm) (r_runS X hw (c_L_color l D t aI48 vI48_11 (vI28 (Int32.toNatClampNeg (4 + x8))) t0 1 _ h) (pm_r pm_0) (va_cwS 4 X.1.2.2.2.2 gL_fits_L_color rfl rfl rfl (by decide +kernel) ⟨Nat.le_of_ble_eq_true rfl, Nat.le_of_ble_eq_true rfl⟩) rfl hl rfl (Nat.le_of_ble_eq_true rfl) dL_fits_145 ⟨Nat.le_of_ble_eq_true rfl, Nat.le_of_ble_eq_true rfl⟩) (fun r_15 u H locs h hw => ?_)
    obtain ⟨vI48_14, rfl⟩ : ∃ z, z = u := ⟨_, rfl⟩
    refine lv_iload hx hb dL_fits_148 (lv_at hl 8 rfl) ?_
    refine lv_icmp_eq (tgt := 157) hx hb dL_fits_150 (by decide) (fun c_20 => ?_) (fun c_20 => ?_)
    · replace h := h.1 c_20
      refine lv_aload_n hx hb dL_fits_157 rfl (lv_at hl 3 rfl) ?_
      refine lv_iconst (v := 2) hx hb dL_fits_158 (by decide) ?_
      refine r_iald (v := (vI28 2)) X hw 0 rfl (vpl rfl) rfl dL_fits_159 ?_
      refine lv_if_le (tgt := 168) hx hb dL_fits_160 (by decide) (fun c_19 => ?_) (fun c_19 => ?_)
      · replace h := h.1 c_19
        exact k_L_fits_168 X aI28 aI48 hP hK211 _ _ _ _ _ _ _ _ _ _ h hw (lv_sub hl [1, 2, 3, 4, 5, 6, 8] rfl)
      replace h := h.2 c_19
      refine lv_iload hx hb dL_fits_163 (lv_at hl 7 rfl) ?_
      refine lv_if_eq (tgt := 180) hx hb dL_fits_165 (by decide) (fun c_18 => ?_) (fun c_18 => ?_)
      · replace h := h.1 c_18
        exact k_L_fits_180 X aI28 aI48 hP hK211 _ _ _ _ _ _ _ _ _ h hw (lv_sub hl [1, 2, 3, 4, 5, 6] rfl)
      replace h := h.2 c_18
      exact k_L_fits_168 X aI28 aI48 hP hK211 _ _ _ _ _ _ _ _ _ _ h hw (lv_sub hl [1, 2, 3, 4, 5, 6, 8] rfl)
    replace h := h.2 c_20
    refine lv_iconst (v := 5) hx hb dL_fits_153 (by decide) ?_
    refine lv_goto (tgt := 187) hx hb dL_fits_154 (by decide) ?_
    exact k_L_fits_187 X aI28 aI48 hP hK211 _ _ _ _ _ _ _ _ _ _ h hw (lv_sub hl [1, 2, 3, 4, 5, 6] rfl)
  replace h := h.2 c_21
  refine lv_iconst (v := 4) hx hb dL_fits_131 (by decide) ?_
  refine lv_goto (tgt := 187) hx hb dL_fits_132 (by decide) ?_
  exact k_L_fits_187 X aI28 aI48 hP hK211 _ _ _ _ _ _ _ _ _ _ h hw (lv_sub hl [1, 2, 3, 4, 5, 6] rfl)
set_option maxHeartbeats 4000000 in
set_option maxRecDepth 100000 in
theorem k_L_fits_80 {p : Program} {l : Launch} {e : Env} {s : State} {m : MethodId} {below : List Frame} {meth : Method} {c : Code} {args : Array Value} {D : va_G} {t : T3} {A : Nat → Prop} (X : Cx p s m meth c args cL_fits 11 (some .int) RL wsL_fits D t A) (aI28 : Nat) (aI48 : Nat) {P : IV → IV → Int32 → Int32 → Int32 → Int32 → Prop} {K211 : IV → IV → Int32 → Prop} {Q : Int32 → IV → IV → Prop} (hP : ∀ (vI28 : IV) (vI48 : IV) (x0 : Int32) (x1 : Int32) (x4 : Int32) (x5 : Int32) (H : Heap) (locs : List Loc) (ls : Array Slot), P vI28 vI48 x0 x1 x4 x5 → Wd D A s.heap (i28W t aI28 vI28 ++ (i48W t aI48 vI48)) H locs → lv_has ls 11 [(0, .int x0), (1, .int x1), (2, .ref aI28), (3, .ref aI48), (4, .int x4), (5, .int x5)] → W p l e ({ frames := 1, cells := 0, slots := 0, locals := 26 } : Room) s m args below meth c H locs 0 0 (Ei below args s A D (fun (u : IV × IV) => (i28W t aI28 u.1 ++ (i48W t aI48 u.2))) (fun (r : Int32) (u : IV × IV) => Q r u.1 u.2) 0 0) (F0 m 7 ls [])) (hK211 : ∀ (vI28 : IV) (vI48 : IV) (x4 : Int32) (H : Heap) (locs : List Loc) (ls : Array Slot), K211 vI28 vI48 x4 → Wd D A s.heap (i28W t aI28 vI28 ++ (i48W t aI48 vI48)) H locs → lv_has ls 11 [(4, .int x4)] → W p l e ({ frames := 1, cells := 0, slots := 0, locals := 26 } : Room) s m args below meth c H locs 0 0 (Ei below args s A D (fun (u : IV × IV) => (i28W t aI28 u.1 ++ (i48W t aI48 u.2))) (fun (r : Int32) (u : IV × IV) => Q r u.1 u.2) 0 0) (F0 m 211 ls [])) : ∀ (vI28 : IV) (vI48 : IV) (x0 : Int32) (x1 : Int32) (x4 : Int32) (x5 : Int32) (t0 : Int32) (H : Heap) (locs : List Loc) (ls : Array Slot), wp_L_fits_80 P K211 Q vI28 vI48 x0 x1 x4 x5 t0 → Wd D A s.heap (i28W t aI28 vI28 ++ (i48W t aI48 vI48)) H locs → lv_has ls 11 [(0, .int x0), (1, .int x1), (2, .ref aI28), (3, .ref aI48), (4, .int x4), (5, .int x5)] → W p l e ({ frames := 1, cells := 0, slots := 0, locals := 26 } : Room) s m args below meth c H locs 0 0 (Ei below args s A D (fun (u : IV × IV) => (i28W t aI28 u.1 ++ (i48W t aI48 u.2))) (fun (r : Int32) (u : IV × IV) => Q r u.1 u.2) 0 0) (F0 m 80 ls [.int t0]) := by
  intro vI28 vI48 x0 x1 x4 x5 t0 H locs ls h hw hl
  have hx := X.1.1
  have hb := X.1.2.1
  refine lv_istore (lv' := [(9, .int t0), (0, .int x0), (1, .int x1), (2, .ref aI28), (3, .ref aI48), (4, .int x4), (5, .int x5)]) hx hb dL_fits_80 hl (by decide) rfl (fun ls hl => ?_)
  refine lv_goto (tgt := 189) hx hb dL_fits_82 (by decide) ?_
  exact k_L_fits_189 X aI28 aI48 hP hK211 _ _ _ _ _ _ _ _ _ _ h hw (lv_sub hl [1, 2, 3, 4, 5, 6, 0] rfl)
set_option maxHeartbeats 4000000 in
set_option maxRecDepth 100000 in
theorem k_L_fits_78 {p : Program} {l : Launch} {e : Env} {s : State} {m : MethodId} {below : List Frame} {meth : Method} {c : Code} {args : Array Value} {D : va_G} {t : T3} {A : Nat → Prop} (X : Cx p s m meth c args cL_fits 11 (some .int) RL wsL_fits D t A) (aI28 : Nat) (aI48 : Nat) {P : IV → IV → Int32 → Int32 → Int32 → Int32 → Prop} {K211 : IV → IV → Int32 → Prop} {Q : Int32 → IV → IV → Prop} (hP : ∀ (vI28 : IV) (vI48 : IV) (x0 : Int32) (x1 : Int32) (x4 : Int32) (x5 : Int32) (H : Heap) (locs : List Loc) (ls : Array Slot), P vI28 vI48 x0 x1 x4 x5 → Wd D A s.heap (i28W t aI28 vI28 ++ (i48W t aI48 vI48)) H locs → lv_has ls 11 [(0, .int x0), (1, .int x1), (2, .ref aI28), (3, .ref aI48), (4, .int x4), (5, .int x5)] → W p l e ({ frames := 1, cells := 0, slots := 0, locals := 26 } : Room) s m args below meth c H locs 0 0 (Ei below args s A D (fun (u : IV × IV) => (i28W t aI28 u.1 ++ (i48W t aI48 u.2))) (fun (r : Int32) (u : IV × IV) => Q r u.1 u.2) 0 0) (F0 m 7 ls [])) (hK211 : ∀ (vI28 : IV) (vI48 : IV) (x4 : Int32) (H : Heap) (locs : List Loc) (ls : Array Slot), K211 vI28 vI48 x4 → Wd D A s.heap (i28W t aI28 vI28 ++ (i48W t aI48 vI48)) H locs → lv_has ls 11 [(4, .int x4)] → W p l e ({ frames := 1, cells := 0, slots := 0, locals := 26 } : Room) s m args below meth c H locs 0 0 (Ei below args s A D (fun (u : IV × IV) => (i28W t aI28 u.1 ++ (i48W t aI48 u.2))) (fun (r : Int32) (u : IV × IV) => Q r u.1 u.2) 0 0) (F0 m 211 ls [])) : ∀ (vI28 : IV) (vI48 : IV) (x0 : Int32) (x1 : Int32) (x4 : Int32) (x5 : Int32) (H : Heap) (locs : List Loc) (ls : Array Slot), wp_L_fits_78 P K211 Q vI28 vI48 x0 x1 x4 x5 → Wd D A s.heap (i28W t aI28 vI28 ++ (i48W t aI48 vI48)) H locs → lv_has ls 11 [(0, .int x0), (1, .int x1), (2, .ref aI28), (3, .ref aI48), (4, .int x4), (5, .int x5)] → W p l e ({ frames := 1, cells := 0, slots := 0, locals := 26 } : Room) s m args below meth c H locs 0 0 (Ei below args s A D (fun (u : IV × IV) => (i28W t aI28 u.1 ++ (i48W t aI48 u.2))) (fun (r : Int32) (u : IV × IV) => Q r u.1 u.2) 0 0) (F0 m 78 ls []) := by
  intro vI28 vI48 x0 x1 x4 x5 H locs ls h hw hl
  have hx := X.1.1
  have hb := X.1.2.1
  refine lv_bipush (v := 9) hx hb dL_fits_78 (by decide) ?_
  exact k_L_fits_80 X aI28 aI48 hP hK211 _ _ _ _ _ _ _ _ _ _ h hw hl
set_option maxHeartbeats 4000000 in
set_option maxRecDepth 100000 in
theorem k_L_fits_74 {p : Program} {l : Launch} {e : Env} {s : State} {m : MethodId} {below : List Frame} {meth : Method} {c : Code} {args : Array Value} {D : va_G} {t : T3} {A : Nat → Prop} (X : Cx p s m meth c args cL_fits 11 (some .int) RL wsL_fits D t A) (aI28 : Nat) (aI48 : Nat) {P : IV → IV → Int32 → Int32 → Int32 → Int32 → Prop} {K211 : IV → IV → Int32 → Prop} {Q : Int32 → IV → IV → Prop} (hP : ∀ (vI28 : IV) (vI48 : IV) (x0 : Int32) (x1 : Int32) (x4 : Int32) (x5 : Int32) (H : Heap) (locs : List Loc) (ls : Array Slot), P vI28 vI48 x0 x1 x4 x5 → Wd D A s.heap (i28W t aI28 vI28 ++ (i48W t aI48 vI48)) H locs → lv_has ls 11 [(0, .int x0), (1, .int x1), (2, .ref aI28), (3, .ref aI48), (4, .int x4), (5, .int x5)] → W p l e ({ frames := 1, cells := 0, slots := 0, locals := 26 } : Room) s m args below meth c H locs 0 0 (Ei below args s A D (fun (u : IV × IV) => (i28W t aI28 u.1 ++ (i48W t aI48 u.2))) (fun (r : Int32) (u : IV × IV) => Q r u.1 u.2) 0 0) (F0 m 7 ls [])) (hK211 : ∀ (vI28 : IV) (vI48 : IV) (x4 : Int32) (H : Heap) (locs : List Loc) (ls : Array Slot), K211 vI28 vI48 x4 → Wd D A s.heap (i28W t aI28 vI28 ++ (i48W t aI48 vI48)) H locs → lv_has ls 11 [(4, .int x4)] → W p l e ({ frames := 1, cells := 0, slots := 0, locals := 26 } : Room) s m args below meth c H locs 0 0 (Ei below args s A D (fun (u : IV × IV) => (i28W t aI28 u.1 ++ (i48W t aI48 u.2))) (fun (r : Int32) (u : IV × IV) => Q r u.1 u.2) 0 0) (F0 m 211 ls [])) : ∀ (vI28 : IV) (vI48 : IV) (x0 : Int32) (x1 : Int32) (x4 : Int32) (x5 : Int32) (H : Heap) (locs : List Loc) (ls : Array Slot), wp_L_fits_74 P K211 Q vI28 vI48 x0 x1 x4 x5 → Wd D A s.heap (i28W t aI28 vI28 ++ (i48W t aI48 vI48)) H locs → lv_has ls 11 [(0, .int x0), (1, .int x1), (2, .ref aI28), (3, .ref aI48), (4, .int x4), (5, .int x5)] → W p l e ({ frames := 1, cells := 0, slots := 0, locals := 26 } : Room) s m args below meth c H locs 0 0 (Ei below args s A D (fun (u : IV × IV) => (i28W t aI28 u.1 ++ (i48W t aI48 u.2))) (fun (r : Int32) (u : IV × IV) => Q r u.1 u.2) 0 0) (F0 m 74 ls []) := by
  intro vI28 vI48 x0 x1 x4 x5 H locs ls h hw hl
  have hx := X.1.1
  have hb := X.1.2.1
  refine lv_iconst (v := 3) hx hb dL_fits_74 (by decide) ?_
  refine lv_goto (tgt := 80) hx hb dL_fits_75 (by decide) ?_
  exact k_L_fits_80 X aI28 aI48 hP hK211 _ _ _ _ _ _ _ _ _ _ h hw hl
set_option maxHeartbeats 4000000 in
set_option maxRecDepth 100000 in
theorem k_L_fits_62 {p : Program} {l : Launch} {e : Env} {s : State} {m : MethodId} {below : List Frame} {meth : Method} {c : Code} {args : Array Value} {D : va_G} {t : T3} {A : Nat → Prop} (X : Cx p s m meth c args cL_fits 11 (some .int) RL wsL_fits D t A) (aI28 : Nat) (aI48 : Nat) {P : IV → IV → Int32 → Int32 → Int32 → Int32 → Prop} {K211 : IV → IV → Int32 → Prop} {Q : Int32 → IV → IV → Prop} (hP : ∀ (vI28 : IV) (vI48 : IV) (x0 : Int32) (x1 : Int32) (x4 : Int32) (x5 : Int32) (H : Heap) (locs : List Loc) (ls : Array Slot), P vI28 vI48 x0 x1 x4 x5 → Wd D A s.heap (i28W t aI28 vI28 ++ (i48W t aI48 vI48)) H locs → lv_has ls 11 [(0, .int x0), (1, .int x1), (2, .ref aI28), (3, .ref aI48), (4, .int x4), (5, .int x5)] → W p l e ({ frames := 1, cells := 0, slots := 0, locals := 26 } : Room) s m args below meth c H locs 0 0 (Ei below args s A D (fun (u : IV × IV) => (i28W t aI28 u.1 ++ (i48W t aI48 u.2))) (fun (r : Int32) (u : IV × IV) => Q r u.1 u.2) 0 0) (F0 m 7 ls [])) (hK211 : ∀ (vI28 : IV) (vI48 : IV) (x4 : Int32) (H : Heap) (locs : List Loc) (ls : Array Slot), K211 vI28 vI48 x4 → Wd D A s.heap (i28W t aI28 vI28 ++ (i48W t aI48 vI48)) H locs → lv_has ls 11 [(4, .int x4)] → W p l e ({ frames := 1, cells := 0, slots := 0, locals := 26 } : Room) s m args below meth c H locs 0 0 (Ei below args s A D (fun (u : IV × IV) => (i28W t aI28 u.1 ++ (i48W t aI48 u.2))) (fun (r : Int32) (u : IV × IV) => Q r u.1 u.2) 0 0) (F0 m 211 ls [])) : ∀ (vI28 : IV) (vI48 : IV) (x0 : Int32) (x1 : Int32) (x4 : Int32) (x5 : Int32) (x7 : Int32) (H : Heap) (locs : List Loc) (ls : Array Slot), wp_L_fits_62 P K211 Q vI28 vI48 x0 x1 x4 x5 x7 → Wd D A s.heap (i28W t aI28 vI28 ++ (i48W t aI48 vI48)) H locs → lv_has ls 11 [(0, .int x0), (1, .int x1), (2, .ref aI28), (3, .ref aI48), (4, .int x4), (5, .int x5), (7, .int x7)] → W p l e ({ frames := 1, cells := 0, slots := 0, locals := 26 } : Room) s m args below meth c H locs 0 0 (Ei below args s A D (fun (u : IV × IV) => (i28W t aI28 u.1 ++ (i48W t aI48 u.2))) (fun (r : Int32) (u : IV × IV) => Q r u.1 u.2) 0 0) (F0 m 62 ls []) := by
  intro vI28 vI48 x0 x1 x4 x5 x7 H locs ls h hw hl
  have hx := X.1.1
  have hb := X.1.2.1
  refine lv_aload_n hx hb dL_fits_62 rfl (lv_at hl 2 rfl) ?_
  refine lv_iconst (v := 2) hx hb dL_fits_63 (by decide) ?_
  refine r_iald (v := (vI28 2)) X hw 0 rfl (vpl rfl) rfl dL_fits_64 ?_
  refine lv_iconst (v := 2) hx hb dL_fits_65 (by decide) ?_
  refine lv_icmp_ne (tgt := 78) hx hb dL_fits_66 (by decide) (fun c_25 => ?_) (fun c_25 => ?_)
  · replace h := h.1 c_25
    exact k_L_fits_78 X aI28 aI48 hP hK211 _ _ _ _ _ _ _ _ _ h hw (lv_sub hl [0, 1, 2, 3, 4, 5] rfl)
  replace h := h.2 c_25
  refine lv_iload hx hb dL_fits_69 (lv_at hl 6 rfl) ?_
  refine lv_if_le (tgt := 78) hx hb dL_fits_71 (by decide) (fun c_24 => ?_) (fun c_24 => ?_)
  · replace h := h.1 c_24
    exact k_L_fits_78 X aI28 aI48 hP hK211 _ _ _ _ _ _ _ _ _ h hw (lv_sub hl [0, 1, 2, 3, 4, 5] rfl)
  replace h := h.2 c_24
  exact k_L_fits_74 X aI28 aI48 hP hK211 _ _ _ _ _ _ _ _ _ h hw (lv_sub hl [0, 1, 2, 3, 4, 5] rfl)
set_option maxHeartbeats 4000000 in
set_option maxRecDepth 100000 in
theorem kb_L_fits_7 {p : Program} {l : Launch} {e : Env} {s : State} {m : MethodId} {below : List Frame} {meth : Method} {c : Code} {args : Array Value} {D : va_G} {t : T3} {A : Nat → Prop} (X : Cx p s m meth c args cL_fits 11 (some .int) RL wsL_fits D t A) (aI28 : Nat) (aI48 : Nat) {Q : Int32 → IV → IV → Prop} {P : IV → IV → Int32 → Int32 → Int32 → Int32 → Prop} {K211 : IV → IV → Int32 → Prop} (hP : ∀ (vI28 : IV) (vI48 : IV) (x0 : Int32) (x1 : Int32) (x4 : Int32) (x5 : Int32) (H : Heap) (locs : List Loc) (ls : Array Slot), P vI28 vI48 x0 x1 x4 x5 → Wd D A s.heap (i28W t aI28 vI28 ++ (i48W t aI48 vI48)) H locs → lv_has ls 11 [(0, .int x0), (1, .int x1), (2, .ref aI28), (3, .ref aI48), (4, .int x4), (5, .int x5)] → W p l e ({ frames := 1, cells := 0, slots := 0, locals := 26 } : Room) s m args below meth c H locs 0 0 (Ei below args s A D (fun (u : IV × IV) => (i28W t aI28 u.1 ++ (i48W t aI48 u.2))) (fun (r : Int32) (u : IV × IV) => Q r u.1 u.2) 0 0) (F0 m 7 ls [])) (hK211 : ∀ (vI28 : IV) (vI48 : IV) (x4 : Int32) (H : Heap) (locs : List Loc) (ls : Array Slot), K211 vI28 vI48 x4 → Wd D A s.heap (i28W t aI28 vI28 ++ (i48W t aI48 vI48)) H locs → lv_has ls 11 [(4, .int x4)] → W p l e ({ frames := 1, cells := 0, slots := 0, locals := 26 } : Room) s m args below meth c H locs 0 0 (Ei below args s A D (fun (u : IV × IV) => (i28W t aI28 u.1 ++ (i48W t aI48 u.2))) (fun (r : Int32) (u : IV × IV) => Q r u.1 u.2) 0 0) (F0 m 211 ls [])) : ∀ (vI28 : IV) (vI48 : IV) (x0 : Int32) (x1 : Int32) (x4 : Int32) (x5 : Int32) (H : Heap) (locs : List Loc) (ls : Array Slot), bd_L_fits_7 Q P K211 vI28 vI48 x0 x1 x4 x5 → Wd D A s.heap (i28W t aI28 vI28 ++ (i48W t aI48 vI48)) H locs → lv_has ls 11 [(0, .int x0), (1, .int x1), (2, .ref aI28), (3, .ref aI48), (4, .int x4), (5, .int x5)] → W p l e ({ frames := 1, cells := 0, slots := 0, locals := 26 } : Room) s m args below meth c H locs 0 0 (Ei below args s A D (fun (u : IV × IV) => (i28W t aI28 u.1 ++ (i48W t aI48 u.2))) (fun (r : Int32) (u : IV × IV) => Q r u.1 u.2) 0 0) (F0 m 7 ls []) := by
  intro vI28 vI48 x0 x1 x4 x5 H locs ls h hw hl
  have hx := X.1.1
  have hb := X.1.2.1
  refine lv_iload hx hb dL_fits_7 (lv_at hl 5 rfl) ?_
  refine lv_iconst (v := 4) hx hb dL_fits_9 (by decide) ?_
  refine lv_icmp_ge (tgt := 211) hx hb dL_fits_10 (by decide) (fun c_29 => ?_) (fun c_29 => ?_)
  · replace h := h.1 c_29
    exact hK211 _ _ _ _ _ _ h hw (lv_sub hl [4] rfl)
  replace h := h.2 c_29
  refine lv_iload_n hx hb dL_fits_13 rfl (lv_at hl 1 rfl) ?_
  refine lv_iload hx hb dL_fits_14 (lv_at hl 5 rfl) ?_
  refine lv_iconst (v := 0) hx hb dL_fits_16 (by decide) ?_
  refine lv_aload_n hx hb dL_fits_17 rfl (lv_at hl 3 rfl) ?_
  refine r_ci X hw (pm_r pm_0) (wn := fun (u : IV) => (i28W t aI28 vI28 ++ (i48W t aI48 u))) (fun u => (pm_r pm_0).symm) (r_runS X hw (c_L_color l D t aI48 vI48 x1 x5 0 _ h) (pm_r pm_0) (va_cwS 4 X.1.2.2.2.2 gL_fits_L_color rfl rfl rfl (by decide +kernel) ⟨Nat.le_of_ble_eq_true rfl, Nat.le_of_ble_eq_true rfl⟩) rfl hl rfl (Nat.le_of_ble_eq_true rfl) dL_fits_18 ⟨Nat.le_of_ble_eq_true rfl, Nat.le_of_ble_eq_true rfl⟩) (fun r_2 u H locs h hw => ?_)
  obtain ⟨vI48_1, rfl⟩ : ∃ z, z = u := ⟨_, rfl⟩
  refine lv_istore (lv' := [(6, .int r_2), (0, .int x0), (1, .int x1), (2, .ref aI28), (3, .ref aI48), (4, .int x4), (5, .int x5)]) hx hb dL_fits_21 hl (by decide) rfl (fun ls hl => ?_)
  refine lv_iload_n hx hb dL_fits_23 rfl (lv_at hl 2 rfl) ?_
  refine lv_iload hx hb dL_fits_24 (lv_at hl 6 rfl) ?_
  refine lv_iconst (v := 1) hx hb dL_fits_26 (by decide) ?_
  refine lv_aload_n hx hb dL_fits_27 rfl (lv_at hl 4 rfl) ?_
  refine r_ci X hw (pm_r pm_0) (wn := fun (u : IV) => (i28W t aI28 vI28 ++ (i48W t aI48 u))) (fun u => (pm_r pm_0).symm) (r_runS X hw (c_L_color l D t aI48 vI48_1 x1 x5 1 _ h) (pm_r pm_0) (va_cwS 4 X.1.2.2.2.2 gL_fits_L_color rfl rfl rfl (by decide +kernel) ⟨Nat.le_of_ble_eq_true rfl, Nat.le_of_ble_eq_true rfl⟩) rfl hl rfl (Nat.le_of_ble_eq_true rfl) dL_fits_28 ⟨Nat.le_of_ble_eq_true rfl, Nat.le_of_ble_eq_true rfl⟩) (fun r_4 u H locs h hw => ?_)
  obtain ⟨vI48_3, rfl⟩ : ∃ z, z = u := ⟨_, rfl⟩
  refine lv_istore (lv' := [(7, .int r_4), (6, .int r_2), (0, .int x0), (1, .int x1), (2, .ref aI28), (3, .ref aI48), (4, .int x4), (5, .int x5)]) hx hb dL_fits_31 hl (by decide) rfl (fun ls hl => ?_)
  refine lv_iload_n hx hb dL_fits_33 rfl (lv_at hl 2 rfl) ?_
  refine lv_iload hx hb dL_fits_34 (lv_at hl 7 rfl) ?_
  refine lv_aload_n hx hb dL_fits_36 rfl (lv_at hl 4 rfl) ?_
  refine r_ci X hw (pm_l pm_0) (wn := fun (u : IV) => (i28W t aI28 u ++ (i48W t aI48 vI48_3))) (fun u => (pm_l pm_0).symm) (r_runS X hw (c_L_beyond l D t aI28 vI28 x0 x5 _ h) (pm_l pm_0) (va_cwS 3 X.1.2.2.2.2 gL_fits_L_beyond rfl rfl rfl (by decide +kernel) ⟨Nat.le_of_ble_eq_true rfl, Nat.le_of_ble_eq_true rfl⟩) rfl hl rfl (Nat.le_of_ble_eq_true rfl) dL_fits_37 ⟨Nat.le_of_ble_eq_true rfl, Nat.le_of_ble_eq_true rfl⟩) (fun r_6 u H locs h hw => ?_)
  obtain ⟨vI28_5, rfl⟩ : ∃ z, z = u := ⟨_, rfl⟩
  refine lv_istore (lv' := [(8, .int r_6), (7, .int r_4), (6, .int r_2), (0, .int x0), (1, .int x1), (2, .ref aI28), (3, .ref aI48), (4, .int x4), (5, .int x5)]) hx hb dL_fits_40 hl (by decide) rfl (fun ls hl => ?_)
  refine lv_bipush (v := 9) hx hb dL_fits_42 (by decide) ?_
  refine lv_istore (lv' := [(9, .int 9), (8, .int r_6), (7, .int r_4), (6, .int r_2), (0, .int x0), (1, .int x1), (2, .ref aI28), (3, .ref aI48), (4, .int x4), (5, .int x5)]) hx hb dL_fits_44 hl (by decide) rfl (fun ls hl => ?_)
  refine lv_iload hx hb dL_fits_46 (lv_at hl 1 rfl) ?_
  refine lv_if_ge (tgt := 85) hx hb dL_fits_48 (by decide) (fun c_28 => ?_) (fun c_28 => ?_)
  · replace h := h.1 c_28
    refine lv_aload_n hx hb dL_fits_85 rfl (lv_at hl 6 rfl) ?_
    refine lv_iconst (v := 4) hx hb dL_fits_86 (by decide) ?_
    refine lv_iload hx hb dL_fits_87 (lv_at hl 1 rfl) ?_
    refine lv_iadd hx hb dL_fits_89 ?_
    obtain ⟨hi_7, h⟩ := h
    refine r_iald (v := (vI28_5 (Int32.toNatClampNeg (4 + r_6)))) X hw 0 rfl hi_7 rfl dL_fits_90 ?_
    refine lv_if_lt (tgt := 189) hx hb dL_fits_91 (by decide) (fun c_23 => ?_) (fun c_23 => ?_)
    · replace h := h.1 c_23
      exact k_L_fits_189 X aI28 aI48 hP hK211 _ _ _ _ _ _ _ _ _ _ h hw (lv_sub hl [4, 5, 6, 7, 8, 9, 0] rfl)
    replace h := h.2 c_23
    refine lv_iload hx hb dL_fits_94 (lv_at hl 9 rfl) ?_
    refine lv_iconst (v := 2) hx hb dL_fits_96 (by decide) ?_
    refine lv_icmp_ge (tgt := 107) hx hb dL_fits_97 (by decide) (fun c_22 => ?_) (fun c_22 => ?_)
    · replace h := h.1 c_22
      refine lv_iload hx hb dL_fits_107 (lv_at hl 9 rfl) ?_
      refine lv_iconst (v := 2) hx hb dL_fits_109 (by decide) ?_
      refine lv_isub hx hb dL_fits_110 ?_
      exact k_L_fits_111 X aI28 aI48 hP hK211 _ _ _ _ _ _ _ _ _ _ _ _ _ h hw (lv_sub hl [4, 5, 6, 7, 8, 9, 3, 2, 1] rfl)
    replace h := h.2 c_22
    refine lv_iload hx hb dL_fits_100 (lv_at hl 9 rfl) ?_
    refine lv_iconst (v := 2) hx hb dL_fits_102 (by decide) ?_
    refine lv_iadd hx hb dL_fits_103 ?_
    refine lv_goto (tgt := 111) hx hb dL_fits_104 (by decide) ?_
    exact k_L_fits_111 X aI28 aI48 hP hK211 _ _ _ _ _ _ _ _ _ _ _ _ _ h hw (lv_sub hl [4, 5, 6, 7, 8, 9, 3, 2, 1] rfl)
  replace h := h.2 c_28
  refine lv_aload_n hx hb dL_fits_51 rfl (lv_at hl 6 rfl) ?_
  refine lv_iconst (v := 2) hx hb dL_fits_52 (by decide) ?_
  refine r_iald (v := (vI28_5 2)) X hw 0 rfl (vpl rfl) rfl dL_fits_53 ?_
  refine lv_if_le (tgt := 62) hx hb dL_fits_54 (by decide) (fun c_27 => ?_) (fun c_27 => ?_)
  · replace h := h.1 c_27
    exact k_L_fits_62 X aI28 aI48 hP hK211 _ _ _ _ _ _ _ _ _ _ h hw (lv_sub hl [4, 5, 6, 7, 8, 9, 2] rfl)
  replace h := h.2 c_27
  refine lv_iload hx hb dL_fits_57 (lv_at hl 3 rfl) ?_
  refine lv_if_gt (tgt := 74) hx hb dL_fits_59 (by decide) (fun c_26 => ?_) (fun c_26 => ?_)
  · replace h := h.1 c_26
    exact k_L_fits_74 X aI28 aI48 hP hK211 _ _ _ _ _ _ _ _ _ h hw (lv_sub hl [4, 5, 6, 7, 8, 9] rfl)
  replace h := h.2 c_26
  exact k_L_fits_62 X aI28 aI48 hP hK211 _ _ _ _ _ _ _ _ _ _ h hw (lv_sub hl [4, 5, 6, 7, 8, 9, 2] rfl)
set_option maxHeartbeats 4000000 in
set_option maxRecDepth 100000 in
theorem k_L_fits_7 {p : Program} {l : Launch} {e : Env} {s : State} {m : MethodId} {below : List Frame} {meth : Method} {c : Code} {args : Array Value} {D : va_G} {t : T3} {A : Nat → Prop} (X : Cx p s m meth c args cL_fits 11 (some .int) RL wsL_fits D t A) (aI28 : Nat) (aI48 : Nat) {Q : Int32 → IV → IV → Prop} {K211 : IV → IV → Int32 → Prop} (hK211 : ∀ (vI28 : IV) (vI48 : IV) (x4 : Int32) (H : Heap) (locs : List Loc) (ls : Array Slot), K211 vI28 vI48 x4 → Wd D A s.heap (i28W t aI28 vI28 ++ (i48W t aI48 vI48)) H locs → lv_has ls 11 [(4, .int x4)] → W p l e ({ frames := 1, cells := 0, slots := 0, locals := 26 } : Room) s m args below meth c H locs 0 0 (Ei below args s A D (fun (u : IV × IV) => (i28W t aI28 u.1 ++ (i48W t aI48 u.2))) (fun (r : Int32) (u : IV × IV) => Q r u.1 u.2) 0 0) (F0 m 211 ls [])) : ∀ (vI28 : IV) (vI48 : IV) (x0 : Int32) (x1 : Int32) (x4 : Int32) (x5 : Int32) (H : Heap) (locs : List Loc) (ls : Array Slot), wp_L_fits_7 Q K211 vI28 vI48 x0 x1 x4 x5 → Wd D A s.heap (i28W t aI28 vI28 ++ (i48W t aI48 vI48)) H locs → lv_has ls 11 [(0, .int x0), (1, .int x1), (2, .ref aI28), (3, .ref aI48), (4, .int x4), (5, .int x5)] → W p l e ({ frames := 1, cells := 0, slots := 0, locals := 26 } : Room) s m args below meth c H locs 0 0 (Ei below args s A D (fun (u : IV × IV) => (i28W t aI28 u.1 ++ (i48W t aI48 u.2))) (fun (r : Int32) (u : IV × IV) => Q r u.1 u.2) 0 0) (F0 m 7 ls []) := by
  intro vI28 vI48 x0 x1 x4 x5 H locs ls h hw hl
  have hx := X.1.1
  have hb := X.1.2.1
  refine h (fun (vI28 : IV) (vI48 : IV) (x0 : Int32) (x1 : Int32) (x4 : Int32) (x5 : Int32) => ∀ (H : Heap) (locs : List Loc) (ls : Array Slot), Wd D A s.heap (i28W t aI28 vI28 ++ (i48W t aI48 vI48)) H locs → lv_has ls 11 [(0, .int x0), (1, .int x1), (2, .ref aI28), (3, .ref aI48), (4, .int x4), (5, .int x5)] → W p l e ({ frames := 1, cells := 0, slots := 0, locals := 26 } : Room) s m args below meth c H locs 0 0 (Ei below args s A D (fun (u : IV × IV) => (i28W t aI28 u.1 ++ (i48W t aI48 u.2))) (fun (r : Int32) (u : IV × IV) => Q r u.1 u.2) 0 0) (F0 m 7 ls [])) (fun vI28 vI48 x0 x1 x4 x5 h H locs ls hw hl => ?_) H locs ls hw hl
  exact kb_L_fits_7 X aI28 aI48 (fun vI28 vI48 x0 x1 x4 x5 H locs ls q hw hl => q H locs ls hw hl) hK211 vI28 vI48 x0 x1 x4 x5 _ _ _ h hw hl
set_option maxHeartbeats 4000000 in
set_option maxRecDepth 100000 in
theorem c_L_fits (l : Launch) (D : va_G) (t : T3) (aI28 : Nat) (aI48 : Nat) (vI28 : IV) (vI48 : IV) (p0 : Int32) (p1 : Int32) (Q : Int32 → IV → IV → Prop) (h : wp_L_fits vI28 vI48 p0 p1 Q) : Ct l yL_fits wsL_fits 1 26 0 0 [.int p0, .int p1, .ref aI28, .ref aI48] D t (i28W t aI28 vI28 ++ (i48W t aI48 vI48)) (fun sz => Qi D (i28W t aI28 vI28 ++ (i48W t aI48 vI48)) (fun (u : IV × IV) => (i28W t aI28 u.1 ++ (i48W t aI48 u.2))) (fun (r : Int32) (u : IV × IV) => Q r u.1 u.2) sz) := by
  refine Ct.of (Qf := fun _ A => va_Qi (fun (r : Int32) (u : IV × IV) => Q r u.1 u.2) (B1 D (fun (u : IV × IV) => (i28W t aI28 u.1 ++ (i48W t aI48 u.2))) A) A) cL_fits 11 (some .int) (by decide) rfl (Nat.le_of_ble_eq_true rfl) ?_
  intro p e s m below meth c A ls hAe hin X hw hl
  generalize ([.int p0, .int p1, .ref aI28, .ref aI48] : List Value).toArray = args at X ⊢
  have hl : lv_has ls 11 [(0, .int p0), (1, .int p1), (2, .ref aI28), (3, .ref aI48)] := hl
  have hx := X.1.1
  have hb := X.1.2.1
  refine lv_bipush (v := 9) hx hb dL_fits_0 (by decide) ?_
  refine lv_istore (lv' := [(4, .int 9), (0, .int p0), (1, .int p1), (2, .ref aI28), (3, .ref aI48)]) hx hb dL_fits_2 hl (by decide) rfl (fun ls hl => ?_)
  refine lv_iconst (v := 0) hx hb dL_fits_4 (by decide) ?_
  refine lv_istore (lv' := [(5, .int 0), (4, .int 9), (0, .int p0), (1, .int p1), (2, .ref aI28), (3, .ref aI48)]) hx hb dL_fits_5 hl (by decide) rfl (fun ls hl => ?_)
  refine k_L_fits_7 X aI28 aI48 (fun vI28_30 vI48_31 x4_32 H locs ls h hw hl => ?_) _ _ _ _ _ _ _ _ _ h hw (lv_sub hl [2, 3, 4, 5, 1, 0] rfl)
  refine lv_iload hx hb dL_fits_211 (lv_at hl 0 rfl) ?_
  refine lv_bipush (v := 9) hx hb dL_fits_213 (by decide) ?_
  refine lv_icmp_ne (tgt := 222) hx hb dL_fits_215 (by decide) (fun c_33 => ?_) (fun c_33 => ?_)
  · replace h := h.1 c_33
    refine lv_iload hx hb dL_fits_222 (lv_at hl 0 rfl) ?_
    exact e_i (w1 := (fun (u : IV × IV) => (i28W t aI28 u.1 ++ (i48W t aI48 u.2)))) X (vI28_30, vI48_31) hw h dL_fits_224
  replace h := h.2 c_33
  refine lv_iconst (v := 0) hx hb dL_fits_218 (by decide) ?_
  refine lv_goto (tgt := 224) hx hb dL_fits_219 (by decide) ?_
  exact e_i (w1 := (fun (u : IV × IV) => (i28W t aI28 u.1 ++ (i48W t aI48 u.2)))) X (vI28_30, vI48_31) hw h dL_fits_224
/-! L_where -/
set_option maxHeartbeats 4000000 in
set_option maxRecDepth 100000 in
theorem k_L_where_35 {p : Program} {l : Launch} {e : Env} {s : State} {m : MethodId} {below : List Frame} {meth : Method} {c : Code} {args : Array Value} {D : va_G} {t : T3} {A : Nat → Prop} (X : Cx p s m meth c args cL_where 3 (some .int) RL wsL_where D t A) (aI28 : Nat) {P : IV → Int32 → Int32 → Prop} {Q : Int32 → IV → Prop} (hP : ∀ (vI28 : IV) (x0 : Int32) (x2 : Int32) (H : Heap) (locs : List Loc) (ls : Array Slot), P vI28 x0 x2 → Wd D A s.heap (i28W t aI28 vI28) H locs → lv_has ls 3 [(0, .int x0), (1, .ref aI28), (2, .int x2)] → W p l e ({ frames := 0, cells := 0, slots := 0, locals := 0 } : Room) s m args below meth c H locs 0 0 (Ei below args s A D (fun (u : IV) => (i28W t aI28 u)) (fun (r : Int32) (u : IV) => Q r u) 0 0) (F0 m 2 ls [])) : ∀ (vI28 : IV) (x0 : Int32) (x2 : Int32) (H : Heap) (locs : List Loc) (ls : Array Slot), wp_L_where_35 P Q vI28 x0 x2 → Wd D A s.heap (i28W t aI28 vI28) H locs → lv_has ls 3 [(0, .int x0), (1, .ref aI28), (2, .int x2)] → W p l e ({ frames := 0, cells := 0, slots := 0, locals := 0 } : Room) s m args below meth c H locs 0 0 (Ei below args s A D (fun (u : IV) => (i28W t aI28 u)) (fun (r : Int32) (u : IV) => Q r u) 0 0) (F0 m 35 ls []) := by
  intro vI28 x0 x2 H locs ls h hw hl
  have hx := X.1.1
  have hb := X.1.2.1
  obtain ⟨x2_2, ex2_2⟩ : ∃ z : Int32, z = x2 + 1 := ⟨_, rfl⟩
  replace h := h x2_2 ex2_2
  refine lv_iinc (v := x2_2) (lv' := [(2, .int x2_2), (0, .int x0), (1, .ref aI28)]) hx hb dL_where_35 hl (k := 2) rfl (by rw [ex2_2]; rfl) (by decide) rfl (fun ls hl => ?_)
  refine lv_goto (tgt := 2) hx hb dL_where_38 (by decide) ?_
  exact hP _ _ _ _ _ _ h hw (lv_sub hl [1, 2, 0] rfl)
set_option maxHeartbeats 4000000 in
set_option maxRecDepth 100000 in
theorem kb_L_where_2 {p : Program} {l : Launch} {e : Env} {s : State} {m : MethodId} {below : List Frame} {meth : Method} {c : Code} {args : Array Value} {D : va_G} {t : T3} {A : Nat → Prop} (X : Cx p s m meth c args cL_where 3 (some .int) RL wsL_where D t A) (aI28 : Nat) {Q : Int32 → IV → Prop} {P : IV → Int32 → Int32 → Prop} (hP : ∀ (vI28 : IV) (x0 : Int32) (x2 : Int32) (H : Heap) (locs : List Loc) (ls : Array Slot), P vI28 x0 x2 → Wd D A s.heap (i28W t aI28 vI28) H locs → lv_has ls 3 [(0, .int x0), (1, .ref aI28), (2, .int x2)] → W p l e ({ frames := 0, cells := 0, slots := 0, locals := 0 } : Room) s m args below meth c H locs 0 0 (Ei below args s A D (fun (u : IV) => (i28W t aI28 u)) (fun (r : Int32) (u : IV) => Q r u) 0 0) (F0 m 2 ls [])) : ∀ (vI28 : IV) (x0 : Int32) (x2 : Int32) (H : Heap) (locs : List Loc) (ls : Array Slot), bd_L_where_2 Q P  vI28 x0 x2 → Wd D A s.heap (i28W t aI28 vI28) H locs → lv_has ls 3 [(0, .int x0), (1, .ref aI28), (2, .int x2)] → W p l e ({ frames := 0, cells := 0, slots := 0, locals := 0 } : Room) s m args below meth c H locs 0 0 (Ei below args s A D (fun (u : IV) => (i28W t aI28 u)) (fun (r : Int32) (u : IV) => Q r u) 0 0) (F0 m 2 ls []) := by
  intro vI28 x0 x2 H locs ls h hw hl
  have hx := X.1.1
  have hb := X.1.2.1
  refine lv_iload_n hx hb dL_where_2 rfl (lv_at hl 2 rfl) ?_
  refine lv_aload_n hx hb dL_where_3 rfl (lv_at hl 1 rfl) ?_
  refine lv_iconst (v := 0) hx hb dL_where_4 (by decide) ?_
  refine r_iald (v := (vI28 0)) X hw 0 rfl (vpl rfl) rfl dL_where_5 ?_
  refine lv_aload_n hx hb dL_where_6 rfl (lv_at hl 1 rfl) ?_
  refine lv_iconst (v := 1) hx hb dL_where_7 (by decide) ?_
  refine r_iald (v := (vI28 1)) X hw 0 rfl (vpl rfl) rfl dL_where_8 ?_
  refine lv_imul hx hb dL_where_9 ?_
  refine lv_icmp_ge (tgt := 41) hx hb dL_where_10 (by decide) (fun c_6 => ?_) (fun c_6 => ?_)
  · replace h := h.1 c_6
    refine lv_iconst (v := (-1)) hx hb dL_where_41 (by decide) ?_
    exact e_i (w1 := (fun (u : IV) => (i28W t aI28 u))) X (vI28) hw h dL_where_42
  replace h := h.2 c_6
  refine lv_aload_n hx hb dL_where_13 rfl (lv_at hl 1 rfl) ?_
  refine lv_iconst (v := 4) hx hb dL_where_14 (by decide) ?_
  refine lv_iload_n hx hb dL_where_15 rfl (lv_at hl 2 rfl) ?_
  refine lv_iadd hx hb dL_where_16 ?_
  obtain ⟨hi_1, h⟩ := h
  refine r_iald (v := (vI28 (Int32.toNatClampNeg (4 + x2)))) X hw 0 rfl hi_1 rfl dL_where_17 ?_
  refine lv_if_lt (tgt := 35) hx hb dL_where_18 (by decide) (fun c_5 => ?_) (fun c_5 => ?_)
  · replace h := h.1 c_5
    exact k_L_where_35 X aI28 hP _ _ _ _ _ _ h hw hl
  replace h := h.2 c_5
  refine lv_aload_n hx hb dL_where_21 rfl (lv_at hl 1 rfl) ?_
  refine lv_iconst (v := 4) hx hb dL_where_22 (by decide) ?_
  refine lv_iload_n hx hb dL_where_23 rfl (lv_at hl 2 rfl) ?_
  refine lv_iadd hx hb dL_where_24 ?_
  obtain ⟨hi_3, h⟩ := h
  refine r_iald (v := (vI28 (Int32.toNatClampNeg (4 + x2)))) X hw 0 rfl hi_3 rfl dL_where_25 ?_
  refine lv_bipush (v := 8) hx hb dL_where_26 (by decide) ?_
  refine lv_idiv hx hb dL_where_28 (by decide) ?_
  refine lv_iload_n hx hb dL_where_29 rfl (lv_at hl 0 rfl) ?_
  refine lv_icmp_ne (tgt := 35) hx hb dL_where_30 (by decide) (fun c_4 => ?_) (fun c_4 => ?_)
  · replace h := h.1 c_4
    exact k_L_where_35 X aI28 hP _ _ _ _ _ _ h hw hl
  replace h := h.2 c_4
  refine lv_iload_n hx hb dL_where_33 rfl (lv_at hl 2 rfl) ?_
  exact e_i (w1 := (fun (u : IV) => (i28W t aI28 u))) X (vI28) hw h dL_where_34
set_option maxHeartbeats 4000000 in
set_option maxRecDepth 100000 in
theorem k_L_where_2 {p : Program} {l : Launch} {e : Env} {s : State} {m : MethodId} {below : List Frame} {meth : Method} {c : Code} {args : Array Value} {D : va_G} {t : T3} {A : Nat → Prop} (X : Cx p s m meth c args cL_where 3 (some .int) RL wsL_where D t A) (aI28 : Nat) {Q : Int32 → IV → Prop}   : ∀ (vI28 : IV) (x0 : Int32) (x2 : Int32) (H : Heap) (locs : List Loc) (ls : Array Slot), wp_L_where_2 Q  vI28 x0 x2 → Wd D A s.heap (i28W t aI28 vI28) H locs → lv_has ls 3 [(0, .int x0), (1, .ref aI28), (2, .int x2)] → W p l e ({ frames := 0, cells := 0, slots := 0, locals := 0 } : Room) s m args below meth c H locs 0 0 (Ei below args s A D (fun (u : IV) => (i28W t aI28 u)) (fun (r : Int32) (u : IV) => Q r u) 0 0) (F0 m 2 ls []) := by
  intro vI28 x0 x2 H locs ls h hw hl
  have hx := X.1.1
  have hb := X.1.2.1
  refine h (fun (vI28 : IV) (x0 : Int32) (x2 : Int32) => ∀ (H : Heap) (locs : List Loc) (ls : Array Slot), Wd D A s.heap (i28W t aI28 vI28) H locs → lv_has ls 3 [(0, .int x0), (1, .ref aI28), (2, .int x2)] → W p l e ({ frames := 0, cells := 0, slots := 0, locals := 0 } : Room) s m args below meth c H locs 0 0 (Ei below args s A D (fun (u : IV) => (i28W t aI28 u)) (fun (r : Int32) (u : IV) => Q r u) 0 0) (F0 m 2 ls [])) (fun vI28 x0 x2 h H locs ls hw hl => ?_) H locs ls hw hl
  exact kb_L_where_2 X aI28 (fun vI28 x0 x2 H locs ls q hw hl => q H locs ls hw hl)  vI28 x0 x2 _ _ _ h hw hl
set_option maxHeartbeats 4000000 in
set_option maxRecDepth 100000 in
theorem c_L_where (l : Launch) (D : va_G) (t : T3) (aI28 : Nat) (vI28 : IV) (p0 : Int32) (Q : Int32 → IV → Prop) (h : wp_L_where vI28 p0 Q) : Ct l yL_where wsL_where 0 0 0 0 [.int p0, .ref aI28] D t (i28W t aI28 vI28) (fun sz => Qi D (i28W t aI28 vI28) (fun (u : IV) => (i28W t aI28 u)) (fun (r : Int32) (u : IV) => Q r u) sz) := by
  refine Ct.of (Qf := fun _ A => va_Qi (fun (r : Int32) (u : IV) => Q r u) (B1 D (fun (u : IV) => (i28W t aI28 u)) A) A) cL_where 3 (some .int) (by decide) rfl (Nat.le_of_ble_eq_true rfl) ?_
  intro p e s m below meth c A ls hAe hin X hw hl
  generalize ([.int p0, .ref aI28] : List Value).toArray = args at X ⊢
  have hl : lv_has ls 3 [(0, .int p0), (1, .ref aI28)] := hl
  have hx := X.1.1
  have hb := X.1.2.1
  refine lv_iconst (v := 0) hx hb dL_where_0 (by decide) ?_
  refine lv_istore_n (lv' := [(2, .int 0), (0, .int p0), (1, .ref aI28)]) hx hb dL_where_1 rfl hl (by decide) rfl (fun ls hl => ?_)
  refine k_L_where_2 X aI28  _ _ _ _ _ _ h hw (lv_sub hl [1, 2, 0] rfl)
/-! L_why -/
set_option maxHeartbeats 4000000 in
set_option maxRecDepth 100000 in
theorem c_L_why (l : Launch) (D : va_G) (t : T3) (aI28 : Nat) (aI48 : Nat) (vI28 : IV) (vI48 : IV) (p0 : Int32) (p1 : Int32) (Q : Int32 → IV → IV → Prop) (h : wp_L_why vI28 vI48 p0 p1 Q) : Ct l yL_why wsL_why 2 56 0 0 [.int p0, .int p1, .ref aI28, .ref aI48] D t (i28W t aI28 vI28 ++ (i48W t aI48 vI48)) (fun sz => Qi D (i28W t aI28 vI28 ++ (i48W t aI48 vI48)) (fun (u : IV × IV) => (i28W t aI28 u.1 ++ (i48W t aI48 u.2))) (fun (r : Int32) (u : IV × IV) => Q r u.1 u.2) sz) := by
  refine Ct.of (Qf := fun _ A => va_Qi (fun (r : Int32) (u : IV × IV) => Q r u.1 u.2) (B1 D (fun (u : IV × IV) => (i28W t aI28 u.1 ++ (i48W t aI48 u.2))) A) A) cL_why 4 (some .int) (by decide) rfl (Nat.le_of_ble_eq_true rfl) ?_
  intro p e s m below meth c A ls hAe hin X hw hl
  generalize ([.int p0, .int p1, .ref aI28, .ref aI48] : List Value).toArray = args at X ⊢
  have hl : lv_has ls 4 [(0, .int p0), (1, .int p1), (2, .ref aI28), (3, .ref aI48)] := hl
  have hx := X.1.1
  have hb := X.1.2.1
  refine lv_aload_n hx hb dL_why_0 rfl (lv_at hl 2 rfl) ?_
  refine lv_iconst (v := 4) hx hb dL_why_1 (by decide) ?_
  refine lv_iload_n hx hb dL_why_2 rfl (lv_at hl 0 rfl) ?_
  refine lv_iadd hx hb dL_why_3 ?_
  obtain ⟨hi_1, h⟩ := h
  refine r_iald (v := (vI28 (Int32.toNatClampNeg (4 + p0)))) X hw 0 rfl hi_1 rfl dL_why_4 ?_
  refine lv_if_lt (tgt := 12) hx hb dL_why_5 (by decide) (fun c_8 => ?_) (fun c_8 => ?_)
  · replace h := h.1 c_8
    refine lv_iload_n hx hb dL_why_12 rfl (lv_at hl 1 rfl) ?_
    refine lv_bipush (v := 8) hx hb dL_why_13 (by decide) ?_
    refine lv_idiv hx hb dL_why_15 (by decide) ?_
    refine lv_aload_n hx hb dL_why_16 rfl (lv_at hl 2 rfl) ?_
    refine r_ci X hw (pm_l pm_0) (wn := fun (u : IV) => (i28W t aI28 u ++ (i48W t aI48 vI48))) (fun u => (pm_l pm_0).symm) (r_runS X hw (c_L_where l D t aI28 vI28 (p1 / 8) _ h) (pm_l pm_0) (va_cwS 2 X.1.2.2.2.2 gL_why_L_where rfl rfl rfl (by decide +kernel) ⟨Nat.le_of_ble_eq_true rfl, Nat.le_of_ble_eq_true rfl⟩) rfl hl rfl (Nat.le_of_ble_eq_true rfl) dL_why_17 ⟨Nat.le_of_ble_eq_true rfl, Nat.le_of_ble_eq_true rfl⟩) (fun r_3 u H locs h hw => ?_)
    obtain ⟨vI28_2, rfl⟩ : ∃ z, z = u := ⟨_, rfl⟩
    refine lv_if_lt (tgt := 27) hx hb dL_why_20 (by decide) (fun c_7 => ?_) (fun c_7 => ?_)
    · replace h := h.1 c_7
      refine lv_iload_n hx hb dL_why_27 rfl (lv_at hl 0 rfl) ?_
      refine lv_iload_n hx hb dL_why_28 rfl (lv_at hl 1 rfl) ?_
      refine lv_aload_n hx hb dL_why_29 rfl (lv_at hl 2 rfl) ?_
      refine lv_aload_n hx hb dL_why_30 rfl (lv_at hl 3 rfl) ?_
      refine r_ci X hw (pm_2 (pm_l pm_0) (pm_r pm_0)) (wn := fun (u : IV × IV) => (i28W t aI28 u.1 ++ (i48W t aI48 u.2))) (fun u => (pm_2 (pm_l pm_0) (pm_r pm_0)).symm) (r_runS X hw (c_L_fits l D t aI28 aI48 vI28_2 vI48 p0 p1 _ h) (pm_2 (pm_l pm_0) (pm_r pm_0)) (va_cwS 4 X.1.2.2.2.2 gL_why_L_fits rfl rfl rfl (by decide +kernel) ⟨Nat.le_of_ble_eq_true rfl, Nat.le_of_ble_eq_true rfl⟩) rfl hl rfl (Nat.le_of_ble_eq_true rfl) dL_why_31 ⟨Nat.le_of_ble_eq_true rfl, Nat.le_of_ble_eq_true rfl⟩) (fun r_6 u H locs h hw => ?_)
      obtain ⟨vI28_4, vI48_5⟩ := u
      exact e_i (w1 := (fun (u : IV × IV) => (i28W t aI28 u.1 ++ (i48W t aI48 u.2)))) X (vI28_4, vI48_5) hw h dL_why_34
    replace h := h.2 c_7
    refine lv_iconst (v := 2) hx hb dL_why_23 (by decide) ?_
    refine lv_goto (tgt := 34) hx hb dL_why_24 (by decide) ?_
    exact e_i (w1 := (fun (u : IV × IV) => (i28W t aI28 u.1 ++ (i48W t aI48 u.2)))) X (vI28_2, vI48) hw h dL_why_34
  replace h := h.2 c_8
  refine lv_iconst (v := 1) hx hb dL_why_8 (by decide) ?_
  refine lv_goto (tgt := 34) hx hb dL_why_9 (by decide) ?_
  exact e_i (w1 := (fun (u : IV × IV) => (i28W t aI28 u.1 ++ (i48W t aI48 u.2)))) X (vI28, vI48) hw h dL_why_34
/-! L_search -/
theorem arI_L_search : Cond.arrayClass .int ∈ wsL_search := List.mem_of_getElem? (i := 1) rfl
set_option maxHeartbeats 4000000 in
set_option maxRecDepth 100000 in
theorem k_L_search_49 {p : Program} {l : Launch} {e : Env} {s : State} {m : MethodId} {below : List Frame} {meth : Method} {c : Code} {args : Array Value} {D : va_G} {t : T3} {A : Nat → Prop} (X : Cx p s m meth c args cL_search 10 none RL wsL_search D t A) (aI28 : Nat) (aI48 : Nat) (aI15 : Nat) (aI12_1 : Nat) (aI12_2 : Nat) {P : IV → IV → IV → IV → IV → Int32 → Int32 → Int32 → Prop} {K55 : IV → IV → IV → IV → IV → Int32 → Int32 → Prop} {Q : IV → IV → IV → Prop} (hP : ∀ (vI28 : IV) (vI48 : IV) (vI15 : IV) (vI12 : IV) (vI122 : IV) (x0 : Int32) (x6 : Int32) (x7 : Int32) (H : Heap) (locs : List Loc) (ls : Array Slot), P vI28 vI48 vI15 vI12 vI122 x0 x6 x7 → Wd D A s.heap (i28W t aI28 vI28 ++ (i48W t aI48 vI48 ++ (i15W t aI15 vI15 ++ (i12W t aI12_1 vI12 ++ (i12W t aI12_2 vI122))))) H locs → lv_has ls 10 [(0, .int x0), (1, .ref aI28), (2, .ref aI48), (3, .ref aI15), (4, .ref aI12_1), (5, .ref aI12_2), (6, .int x6), (7, .int x7)] → W p l e ({ frames := 3, cells := 2, slots := 24, locals := 79 } : Room) s m args below meth c H locs 2 24 (Ev below args s A D (fun (u : IV × IV × IV) => (i28W t aI28 u.1 ++ (i48W t aI48 u.2.1 ++ (i15W t aI15 u.2.2)))) (fun (u : IV × IV × IV) => Q u.1 u.2.1 u.2.2) 2 24) (F0 m 18 ls [])) (hK55 : ∀ (vI28 : IV) (vI48 : IV) (vI15 : IV) (vI12 : IV) (vI122 : IV) (x0 : Int32) (x6 : Int32) (H : Heap) (locs : List Loc) (ls : Array Slot), K55 vI28 vI48 vI15 vI12 vI122 x0 x6 → Wd D A s.heap (i28W t aI28 vI28 ++ (i48W t aI48 vI48 ++ (i15W t aI15 vI15 ++ (i12W t aI12_1 vI12 ++ (i12W t aI12_2 vI122))))) H locs → lv_has ls 10 [(0, .int x0), (1, .ref aI28), (2, .ref aI48), (3, .ref aI15), (4, .ref aI12_1), (5, .ref aI12_2), (6, .int x6)] → W p l e ({ frames := 3, cells := 2, slots := 24, locals := 79 } : Room) s m args below meth c H locs 2 24 (Ev below args s A D (fun (u : IV × IV × IV) => (i28W t aI28 u.1 ++ (i48W t aI48 u.2.1 ++ (i15W t aI15 u.2.2)))) (fun (u : IV × IV × IV) => Q u.1 u.2.1 u.2.2) 2 24) (F0 m 55 ls [])) : ∀ (vI28 : IV) (vI48 : IV) (vI15 : IV) (vI12 : IV) (vI122 : IV) (x0 : Int32) (x6 : Int32) (x7 : Int32) (H : Heap) (locs : List Loc) (ls : Array Slot), wp_L_search_49 P K55 Q vI28 vI48 vI15 vI12 vI122 x0 x6 x7 → Wd D A s.heap (i28W t aI28 vI28 ++ (i48W t aI48 vI48 ++ (i15W t aI15 vI15 ++ (i12W t aI12_1 vI12 ++ (i12W t aI12_2 vI122))))) H locs → lv_has ls 10 [(0, .int x0), (1, .ref aI28), (2, .ref aI48), (3, .ref aI15), (4, .ref aI12_1), (5, .ref aI12_2), (6, .int x6), (7, .int x7)] → W p l e ({ frames := 3, cells := 2, slots := 24, locals := 79 } : Room) s m args below meth c H locs 2 24 (Ev below args s A D (fun (u : IV × IV × IV) => (i28W t aI28 u.1 ++ (i48W t aI48 u.2.1 ++ (i15W t aI15 u.2.2)))) (fun (u : IV × IV × IV) => Q u.1 u.2.1 u.2.2) 2 24) (F0 m 49 ls []) := by
  intro vI28 vI48 vI15 vI12 vI122 x0 x6 x7 H locs ls h hw hl
  have hx := X.1.1
  have hb := X.1.2.1
  obtain ⟨x7_4, ex7_4⟩ : ∃ z : Int32, z = x7 + 1 := ⟨_, rfl⟩
  replace h := h x7_4 ex7_4
  refine lv_iinc (v := x7_4) (lv' := [(7, .int x7_4), (0, .int x0), (1, .ref aI28), (2, .ref aI48), (3, .ref aI15), (4, .ref aI12_1), (5, .ref aI12_2), (6, .int x6)]) hx hb dL_search_49 hl (k := 7) rfl (by rw [ex7_4]; rfl) (by decide) rfl (fun ls hl => ?_)
  refine lv_goto (tgt := 18) hx hb dL_search_52 (by decide) ?_
  exact hP _ _ _ _ _ _ _ _ _ _ _ h hw (lv_sub hl [1, 2, 3, 4, 5, 6, 7, 0] rfl)
set_option maxHeartbeats 4000000 in
set_option maxRecDepth 100000 in
theorem kb_L_search_18 {p : Program} {l : Launch} {e : Env} {s : State} {m : MethodId} {below : List Frame} {meth : Method} {c : Code} {args : Array Value} {D : va_G} {t : T3} {A : Nat → Prop} (X : Cx p s m meth c args cL_search 10 none RL wsL_search D t A) (aI28 : Nat) (aI48 : Nat) (aI15 : Nat) (aI12_1 : Nat) (aI12_2 : Nat) {Q : IV → IV → IV → Prop} {P : IV → IV → IV → IV → IV → Int32 → Int32 → Int32 → Prop} {K55 : IV → IV → IV → IV → IV → Int32 → Int32 → Prop} (hP : ∀ (vI28 : IV) (vI48 : IV) (vI15 : IV) (vI12 : IV) (vI122 : IV) (x0 : Int32) (x6 : Int32) (x7 : Int32) (H : Heap) (locs : List Loc) (ls : Array Slot), P vI28 vI48 vI15 vI12 vI122 x0 x6 x7 → Wd D A s.heap (i28W t aI28 vI28 ++ (i48W t aI48 vI48 ++ (i15W t aI15 vI15 ++ (i12W t aI12_1 vI12 ++ (i12W t aI12_2 vI122))))) H locs → lv_has ls 10 [(0, .int x0), (1, .ref aI28), (2, .ref aI48), (3, .ref aI15), (4, .ref aI12_1), (5, .ref aI12_2), (6, .int x6), (7, .int x7)] → W p l e ({ frames := 3, cells := 2, slots := 24, locals := 79 } : Room) s m args below meth c H locs 2 24 (Ev below args s A D (fun (u : IV × IV × IV) => (i28W t aI28 u.1 ++ (i48W t aI48 u.2.1 ++ (i15W t aI15 u.2.2)))) (fun (u : IV × IV × IV) => Q u.1 u.2.1 u.2.2) 2 24) (F0 m 18 ls [])) (hK55 : ∀ (vI28 : IV) (vI48 : IV) (vI15 : IV) (vI12 : IV) (vI122 : IV) (x0 : Int32) (x6 : Int32) (H : Heap) (locs : List Loc) (ls : Array Slot), K55 vI28 vI48 vI15 vI12 vI122 x0 x6 → Wd D A s.heap (i28W t aI28 vI28 ++ (i48W t aI48 vI48 ++ (i15W t aI15 vI15 ++ (i12W t aI12_1 vI12 ++ (i12W t aI12_2 vI122))))) H locs → lv_has ls 10 [(0, .int x0), (1, .ref aI28), (2, .ref aI48), (3, .ref aI15), (4, .ref aI12_1), (5, .ref aI12_2), (6, .int x6)] → W p l e ({ frames := 3, cells := 2, slots := 24, locals := 79 } : Room) s m args below meth c H locs 2 24 (Ev below args s A D (fun (u : IV × IV × IV) => (i28W t aI28 u.1 ++ (i48W t aI48 u.2.1 ++ (i15W t aI15 u.2.2)))) (fun (u : IV × IV × IV) => Q u.1 u.2.1 u.2.2) 2 24) (F0 m 55 ls [])) : ∀ (vI28 : IV) (vI48 : IV) (vI15 : IV) (vI12 : IV) (vI122 : IV) (x0 : Int32) (x6 : Int32) (x7 : Int32) (H : Heap) (locs : List Loc) (ls : Array Slot), bd_L_search_18 Q P K55 vI28 vI48 vI15 vI12 vI122 x0 x6 x7 → Wd D A s.heap (i28W t aI28 vI28 ++ (i48W t aI48 vI48 ++ (i15W t aI15 vI15 ++ (i12W t aI12_1 vI12 ++ (i12W t aI12_2 vI122))))) H locs → lv_has ls 10 [(0, .int x0), (1, .ref aI28), (2, .ref aI48), (3, .ref aI15), (4, .ref aI12_1), (5, .ref aI12_2), (6, .int x6), (7, .int x7)] → W p l e ({ frames := 3, cells := 2, slots := 24, locals := 79 } : Room) s m args below meth c H locs 2 24 (Ev below args s A D (fun (u : IV × IV × IV) => (i28W t aI28 u.1 ++ (i48W t aI48 u.2.1 ++ (i15W t aI15 u.2.2)))) (fun (u : IV × IV × IV) => Q u.1 u.2.1 u.2.2) 2 24) (F0 m 18 ls []) := by
  intro vI28 vI48 vI15 vI12 vI122 x0 x6 x7 H locs ls h hw hl
  have hx := X.1.1
  have hb := X.1.2.1
  refine lv_iload hx hb dL_search_18 (lv_at hl 7 rfl) ?_
  refine lv_aload_n hx hb dL_search_20 rfl (lv_at hl 1 rfl) ?_
  refine lv_iconst (v := 0) hx hb dL_search_21 (by decide) ?_
  refine r_iald (v := (vI28 0)) X hw 0 rfl (vpl rfl) rfl dL_search_22 ?_
  refine lv_aload_n hx hb dL_search_23 rfl (lv_at hl 1 rfl) ?_
  refine lv_iconst (v := 1) hx hb dL_search_24 (by decide) ?_
  refine r_iald (v := (vI28 1)) X hw 0 rfl (vpl rfl) rfl dL_search_25 ?_
  refine lv_imul hx hb dL_search_26 ?_
  refine lv_icmp_ge (tgt := 55) hx hb dL_search_27 (by decide) (fun c_9 => ?_) (fun c_9 => ?_)
  · replace h := h.1 c_9
    exact hK55 _ _ _ _ _ _ _ _ _ _ h hw (lv_sub hl [0, 1, 2, 3, 4, 5, 6] rfl)
  replace h := h.2 c_9
  refine lv_aload_n hx hb dL_search_30 rfl (lv_at hl 1 rfl) ?_
  refine lv_iconst (v := 4) hx hb dL_search_31 (by decide) ?_
  refine lv_iload hx hb dL_search_32 (lv_at hl 7 rfl) ?_
  refine lv_iadd hx hb dL_search_34 ?_
  obtain ⟨hi_3, h⟩ := h
  refine r_iald (v := (vI28 (Int32.toNatClampNeg (4 + x7)))) X hw 0 rfl hi_3 rfl dL_search_35 ?_
  refine lv_if_ge (tgt := 49) hx hb dL_search_36 (by decide) (fun c_8 => ?_) (fun c_8 => ?_)
  · replace h := h.1 c_8
    exact k_L_search_49 X aI28 aI48 aI15 aI12_1 aI12_2 hP hK55 _ _ _ _ _ _ _ _ _ _ _ h hw hl
  replace h := h.2 c_8
  refine lv_aload hx hb dL_search_39 (lv_at hl 5 rfl) ?_
  refine lv_iload hx hb dL_search_41 (lv_at hl 6 rfl) ?_
  obtain ⟨x6_5, ex6_5⟩ : ∃ z : Int32, z = x6 + 1 := ⟨_, rfl⟩
  replace h := h x6_5 ex6_5
  refine lv_iinc (v := x6_5) (lv' := [(6, .int x6_5), (0, .int x0), (1, .ref aI28), (2, .ref aI48), (3, .ref aI15), (4, .ref aI12_1), (5, .ref aI12_2), (7, .int x7)]) hx hb dL_search_43 hl (k := 6) rfl (by rw [ex6_5]; rfl) (by decide) rfl (fun ls hl => ?_)
  refine lv_iload hx hb dL_search_46 (lv_at hl 7 rfl) ?_
  obtain ⟨hi_6, h⟩ := h
  obtain ⟨o_7, eo_7⟩ : ∃ z : Nat → Int32, z = upd vI122 (Int32.toNatClampNeg x6) x7 := ⟨_, rfl⟩
  replace h := h o_7 eo_7
  refine r_iast (ws' := (i28W t aI28 vI28 ++ (i48W t aI48 vI48 ++ (i15W t aI15 vI15 ++ (i12W t aI12_1 vI12 ++ (i12W t aI12_2 o_7)))))) X hw 4 rfl hi_6 (by subst eo_7; rfl) dL_search_48 (fun H locs hw => ?_)
  exact k_L_search_49 X aI28 aI48 aI15 aI12_1 aI12_2 hP hK55 _ _ _ _ _ _ _ _ _ _ _ h hw (lv_sub hl [1, 2, 3, 4, 5, 6, 0, 7] rfl)
set_option maxHeartbeats 4000000 in
set_option maxRecDepth 100000 in
theorem k_L_search_18 {p : Program} {l : Launch} {e : Env} {s : State} {m : MethodId} {below : List Frame} {meth : Method} {c : Code} {args : Array Value} {D : va_G} {t : T3} {A : Nat → Prop} (X : Cx p s m meth c args cL_search 10 none RL wsL_search D t A) (aI28 : Nat) (aI48 : Nat) (aI15 : Nat) (aI12_1 : Nat) (aI12_2 : Nat) {Q : IV → IV → IV → Prop} {K55 : IV → IV → IV → IV → IV → Int32 → Int32 → Prop} (hK55 : ∀ (vI28 : IV) (vI48 : IV) (vI15 : IV) (vI12 : IV) (vI122 : IV) (x0 : Int32) (x6 : Int32) (H : Heap) (locs : List Loc) (ls : Array Slot), K55 vI28 vI48 vI15 vI12 vI122 x0 x6 → Wd D A s.heap (i28W t aI28 vI28 ++ (i48W t aI48 vI48 ++ (i15W t aI15 vI15 ++ (i12W t aI12_1 vI12 ++ (i12W t aI12_2 vI122))))) H locs → lv_has ls 10 [(0, .int x0), (1, .ref aI28), (2, .ref aI48), (3, .ref aI15), (4, .ref aI12_1), (5, .ref aI12_2), (6, .int x6)] → W p l e ({ frames := 3, cells := 2, slots := 24, locals := 79 } : Room) s m args below meth c H locs 2 24 (Ev below args s A D (fun (u : IV × IV × IV) => (i28W t aI28 u.1 ++ (i48W t aI48 u.2.1 ++ (i15W t aI15 u.2.2)))) (fun (u : IV × IV × IV) => Q u.1 u.2.1 u.2.2) 2 24) (F0 m 55 ls [])) : ∀ (vI28 : IV) (vI48 : IV) (vI15 : IV) (vI12 : IV) (vI122 : IV) (x0 : Int32) (x6 : Int32) (x7 : Int32) (H : Heap) (locs : List Loc) (ls : Array Slot), wp_L_search_18 Q K55 vI28 vI48 vI15 vI12 vI122 x0 x6 x7 → Wd D A s.heap (i28W t aI28 vI28 ++ (i48W t aI48 vI48 ++ (i15W t aI15 vI15 ++ (i12W t aI12_1 vI12 ++ (i12W t aI12_2 vI122))))) H locs → lv_has ls 10 [(0, .int x0), (1, .ref aI28), (2, .ref aI48), (3, .ref aI15), (4, .ref aI12_1), (5, .ref aI12_2), (6, .int x6), (7, .int x7)] → W p l e ({ frames := 3, cells := 2, slots := 24, locals := 79 } : Room) s m args below meth c H locs 2 24 (Ev below args s A D (fun (u : IV × IV × IV) => (i28W t aI28 u.1 ++ (i48W t aI48 u.2.1 ++ (i15W t aI15 u.2.2)))) (fun (u : IV × IV × IV) => Q u.1 u.2.1 u.2.2) 2 24) (F0 m 18 ls []) := by
  intro vI28 vI48 vI15 vI12 vI122 x0 x6 x7 H locs ls h hw hl
  have hx := X.1.1
  have hb := X.1.2.1
  refine h (fun (vI28 : IV) (vI48 : IV) (vI15 : IV) (vI12 : IV) (vI122 : IV) (x0 : Int32) (x6 : Int32) (x7 : Int32) => ∀ (H : Heap) (locs : List Loc) (ls : Array Slot), Wd D A s.heap (i28W t aI28 vI28 ++ (i48W t aI48 vI48 ++ (i15W t aI15 vI15 ++ (i12W t aI12_1 vI12 ++ (i12W t aI12_2 vI122))))) H locs → lv_has ls 10 [(0, .int x0), (1, .ref aI28), (2, .ref aI48), (3, .ref aI15), (4, .ref aI12_1), (5, .ref aI12_2), (6, .int x6), (7, .int x7)] → W p l e ({ frames := 3, cells := 2, slots := 24, locals := 79 } : Room) s m args below meth c H locs 2 24 (Ev below args s A D (fun (u : IV × IV × IV) => (i28W t aI28 u.1 ++ (i48W t aI48 u.2.1 ++ (i15W t aI15 u.2.2)))) (fun (u : IV × IV × IV) => Q u.1 u.2.1 u.2.2) 2 24) (F0 m 18 ls [])) (fun vI28 vI48 vI15 vI12 vI122 x0 x6 x7 h H locs ls hw hl => ?_) H locs ls hw hl
  exact kb_L_search_18 X aI28 aI48 aI15 aI12_1 aI12_2 (fun vI28 vI48 vI15 vI12 vI122 x0 x6 x7 H locs ls q hw hl => q H locs ls hw hl) hK55 vI28 vI48 vI15 vI12 vI122 x0 x6 x7 _ _ _ h hw hl
set_option maxHeartbeats 4000000 in
set_option maxRecDepth 100000 in
theorem kb_L_search_233 {p : Program} {l : Launch} {e : Env} {s : State} {m : MethodId} {below : List Frame} {meth : Method} {c : Code} {args : Array Value} {D : va_G} {t : T3} {A : Nat → Prop} (X : Cx p s m meth c args cL_search 10 none RL wsL_search D t A) (aI28 : Nat) (aI48 : Nat) (aI15 : Nat) (aI12_1 : Nat) (aI12_2 : Nat) {Q : IV → IV → IV → Prop} {P : IV → IV → IV → IV → IV → Int32 → Int32 → Int32 → Int32 → Prop} {K264 : IV → IV → IV → IV → IV → Int32 → Int32 → Int32 → Prop} (hP : ∀ (vI28 : IV) (vI48 : IV) (vI15 : IV) (vI12 : IV) (vI122 : IV) (x0 : Int32) (x6 : Int32) (x7 : Int32) (x9 : Int32) (H : Heap) (locs : List Loc) (ls : Array Slot), P vI28 vI48 vI15 vI12 vI122 x0 x6 x7 x9 → Wd D A s.heap (i28W t aI28 vI28 ++ (i48W t aI48 vI48 ++ (i15W t aI15 vI15 ++ (i12W t aI12_1 vI12 ++ (i12W t aI12_2 vI122))))) H locs → lv_has ls 10 [(0, .int x0), (1, .ref aI28), (2, .ref aI48), (3, .ref aI15), (4, .ref aI12_1), (5, .ref aI12_2), (6, .int x6), (7, .int x7), (9, .int x9)] → W p l e ({ frames := 3, cells := 2, slots := 24, locals := 79 } : Room) s m args below meth c H locs 2 24 (Ev below args s A D (fun (u : IV × IV × IV) => (i28W t aI28 u.1 ++ (i48W t aI48 u.2.1 ++ (i15W t aI15 u.2.2)))) (fun (u : IV × IV × IV) => Q u.1 u.2.1 u.2.2) 2 24) (F0 m 233 ls [])) (hK264 : ∀ (vI28 : IV) (vI48 : IV) (vI15 : IV) (vI12 : IV) (vI122 : IV) (x0 : Int32) (x6 : Int32) (x7 : Int32) (H : Heap) (locs : List Loc) (ls : Array Slot), K264 vI28 vI48 vI15 vI12 vI122 x0 x6 x7 → Wd D A s.heap (i28W t aI28 vI28 ++ (i48W t aI48 vI48 ++ (i15W t aI15 vI15 ++ (i12W t aI12_1 vI12 ++ (i12W t aI12_2 vI122))))) H locs → lv_has ls 10 [(0, .int x0), (1, .ref aI28), (2, .ref aI48), (3, .ref aI15), (4, .ref aI12_1), (5, .ref aI12_2), (6, .int x6), (7, .int x7)] → W p l e ({ frames := 3, cells := 2, slots := 24, locals := 79 } : Room) s m args below meth c H locs 2 24 (Ev below args s A D (fun (u : IV × IV × IV) => (i28W t aI28 u.1 ++ (i48W t aI48 u.2.1 ++ (i15W t aI15 u.2.2)))) (fun (u : IV × IV × IV) => Q u.1 u.2.1 u.2.2) 2 24) (F0 m 264 ls [])) : ∀ (vI28 : IV) (vI48 : IV) (vI15 : IV) (vI12 : IV) (vI122 : IV) (x0 : Int32) (x6 : Int32) (x7 : Int32) (x9 : Int32) (H : Heap) (locs : List Loc) (ls : Array Slot), bd_L_search_233 Q P K264 vI28 vI48 vI15 vI12 vI122 x0 x6 x7 x9 → Wd D A s.heap (i28W t aI28 vI28 ++ (i48W t aI48 vI48 ++ (i15W t aI15 vI15 ++ (i12W t aI12_1 vI12 ++ (i12W t aI12_2 vI122))))) H locs → lv_has ls 10 [(0, .int x0), (1, .ref aI28), (2, .ref aI48), (3, .ref aI15), (4, .ref aI12_1), (5, .ref aI12_2), (6, .int x6), (7, .int x7), (9, .int x9)] → W p l e ({ frames := 3, cells := 2, slots := 24, locals := 79 } : Room) s m args below meth c H locs 2 24 (Ev below args s A D (fun (u : IV × IV × IV) => (i28W t aI28 u.1 ++ (i48W t aI48 u.2.1 ++ (i15W t aI15 u.2.2)))) (fun (u : IV × IV × IV) => Q u.1 u.2.1 u.2.2) 2 24) (F0 m 233 ls []) := by
  intro vI28 vI48 vI15 vI12 vI122 x0 x6 x7 x9 H locs ls h hw hl
  have hx := X.1.1
  have hb := X.1.2.1
  refine lv_iload hx hb dL_search_233 (lv_at hl 8 rfl) ?_
  refine lv_iload hx hb dL_search_235 (lv_at hl 6 rfl) ?_
  refine lv_icmp_ge (tgt := 264) hx hb dL_search_237 (by decide) (fun c_48 => ?_) (fun c_48 => ?_)
  · replace h := h.1 c_48
    exact hK264 _ _ _ _ _ _ _ _ _ _ _ h hw (lv_sub hl [0, 1, 2, 3, 4, 5, 6, 7] rfl)
  replace h := h.2 c_48
  refine lv_aload_n hx hb dL_search_240 rfl (lv_at hl 3 rfl) ?_
  refine lv_iconst (v := 3) hx hb dL_search_241 (by decide) ?_
  refine lv_aload hx hb dL_search_242 (lv_at hl 5 rfl) ?_
  refine lv_iload hx hb dL_search_244 (lv_at hl 8 rfl) ?_
  obtain ⟨hi_41, h⟩ := h
  refine r_iald (v := (vI122 (Int32.toNatClampNeg x9))) X hw 4 rfl hi_41 rfl dL_search_246 ?_
  refine lv_iadd hx hb dL_search_247 ?_
  refine lv_aload_n hx hb dL_search_248 rfl (lv_at hl 1 rfl) ?_
  refine lv_iconst (v := 4) hx hb dL_search_249 (by decide) ?_
  refine lv_aload hx hb dL_search_250 (lv_at hl 5 rfl) ?_
  refine lv_iload hx hb dL_search_252 (lv_at hl 8 rfl) ?_
  obtain ⟨hi_42, h⟩ := h
  refine r_iald (v := (vI122 (Int32.toNatClampNeg x9))) X hw 4 rfl hi_42 rfl dL_search_254 ?_
  refine lv_iadd hx hb dL_search_255 ?_
  obtain ⟨hi_43, h⟩ := h
  refine r_iald (v := (vI28 (Int32.toNatClampNeg (4 + (vI122 (Int32.toNatClampNeg x9)))))) X hw 0 rfl hi_43 rfl dL_search_256 ?_
  refine lv_topi (fun f_44 ef_44 => ?_)
  replace h := h f_44 ef_44
  obtain ⟨hi_45, h⟩ := h
  obtain ⟨o_46, eo_46⟩ : ∃ z : Nat → Int32, z = upd vI15 (Int32.toNatClampNeg (3 + (vI122 (Int32.toNatClampNeg x9)))) f_44 := ⟨_, rfl⟩
  replace h := h o_46 eo_46
  refine r_iast (ws' := (i28W t aI28 vI28 ++ (i48W t aI48 vI48 ++ (i15W t aI15 o_46 ++ (i12W t aI12_1 vI12 ++ (i12W t aI12_2 vI122)))))) X hw 2 rfl hi_45 (by subst eo_46; rfl) dL_search_257 (fun H locs hw => ?_)
  obtain ⟨x9_47, ex9_47⟩ : ∃ z : Int32, z = x9 + 1 := ⟨_, rfl⟩
  replace h := h x9_47 ex9_47
  refine lv_iinc (v := x9_47) (lv' := [(9, .int x9_47), (0, .int x0), (1, .ref aI28), (2, .ref aI48), (3, .ref aI15), (4, .ref aI12_1), (5, .ref aI12_2), (6, .int x6), (7, .int x7)]) hx hb dL_search_258 hl (k := 8) rfl (by rw [ex9_47]; rfl) (by decide) rfl (fun ls hl => ?_)
  refine lv_goto (tgt := 233) hx hb dL_search_261 (by decide) ?_
  exact hP _ _ _ _ _ _ _ _ _ _ _ _ h hw (lv_sub hl [1, 2, 3, 4, 5, 6, 7, 8, 0] rfl)
set_option maxHeartbeats 4000000 in
set_option maxRecDepth 100000 in
theorem k_L_search_233 {p : Program} {l : Launch} {e : Env} {s : State} {m : MethodId} {below : List Frame} {meth : Method} {c : Code} {args : Array Value} {D : va_G} {t : T3} {A : Nat → Prop} (X : Cx p s m meth c args cL_search 10 none RL wsL_search D t A) (aI28 : Nat) (aI48 : Nat) (aI15 : Nat) (aI12_1 : Nat) (aI12_2 : Nat) {Q : IV → IV → IV → Prop} {K264 : IV → IV → IV → IV → IV → Int32 → Int32 → Int32 → Prop} (hK264 : ∀ (vI28 : IV) (vI48 : IV) (vI15 : IV) (vI12 : IV) (vI122 : IV) (x0 : Int32) (x6 : Int32) (x7 : Int32) (H : Heap) (locs : List Loc) (ls : Array Slot), K264 vI28 vI48 vI15 vI12 vI122 x0 x6 x7 → Wd D A s.heap (i28W t aI28 vI28 ++ (i48W t aI48 vI48 ++ (i15W t aI15 vI15 ++ (i12W t aI12_1 vI12 ++ (i12W t aI12_2 vI122))))) H locs → lv_has ls 10 [(0, .int x0), (1, .ref aI28), (2, .ref aI48), (3, .ref aI15), (4, .ref aI12_1), (5, .ref aI12_2), (6, .int x6), (7, .int x7)] → W p l e ({ frames := 3, cells := 2, slots := 24, locals := 79 } : Room) s m args below meth c H locs 2 24 (Ev below args s A D (fun (u : IV × IV × IV) => (i28W t aI28 u.1 ++ (i48W t aI48 u.2.1 ++ (i15W t aI15 u.2.2)))) (fun (u : IV × IV × IV) => Q u.1 u.2.1 u.2.2) 2 24) (F0 m 264 ls [])) : ∀ (vI28 : IV) (vI48 : IV) (vI15 : IV) (vI12 : IV) (vI122 : IV) (x0 : Int32) (x6 : Int32) (x7 : Int32) (x9 : Int32) (H : Heap) (locs : List Loc) (ls : Array Slot), wp_L_search_233 Q K264 vI28 vI48 vI15 vI12 vI122 x0 x6 x7 x9 → Wd D A s.heap (i28W t aI28 vI28 ++ (i48W t aI48 vI48 ++ (i15W t aI15 vI15 ++ (i12W t aI12_1 vI12 ++ (i12W t aI12_2 vI122))))) H locs → lv_has ls 10 [(0, .int x0), (1, .ref aI28), (2, .ref aI48), (3, .ref aI15), (4, .ref aI12_1), (5, .ref aI12_2), (6, .int x6), (7, .int x7), (9, .int x9)] → W p l e ({ frames := 3, cells := 2, slots := 24, locals := 79 } : Room) s m args below meth c H locs 2 24 (Ev below args s A D (fun (u : IV × IV × IV) => (i28W t aI28 u.1 ++ (i48W t aI48 u.2.1 ++ (i15W t aI15 u.2.2)))) (fun (u : IV × IV × IV) => Q u.1 u.2.1 u.2.2) 2 24) (F0 m 233 ls []) := by
  intro vI28 vI48 vI15 vI12 vI122 x0 x6 x7 x9 H locs ls h hw hl
  have hx := X.1.1
  have hb := X.1.2.1
  refine h (fun (vI28 : IV) (vI48 : IV) (vI15 : IV) (vI12 : IV) (vI122 : IV) (x0 : Int32) (x6 : Int32) (x7 : Int32) (x9 : Int32) => ∀ (H : Heap) (locs : List Loc) (ls : Array Slot), Wd D A s.heap (i28W t aI28 vI28 ++ (i48W t aI48 vI48 ++ (i15W t aI15 vI15 ++ (i12W t aI12_1 vI12 ++ (i12W t aI12_2 vI122))))) H locs → lv_has ls 10 [(0, .int x0), (1, .ref aI28), (2, .ref aI48), (3, .ref aI15), (4, .ref aI12_1), (5, .ref aI12_2), (6, .int x6), (7, .int x7), (9, .int x9)] → W p l e ({ frames := 3, cells := 2, slots := 24, locals := 79 } : Room) s m args below meth c H locs 2 24 (Ev below args s A D (fun (u : IV × IV × IV) => (i28W t aI28 u.1 ++ (i48W t aI48 u.2.1 ++ (i15W t aI15 u.2.2)))) (fun (u : IV × IV × IV) => Q u.1 u.2.1 u.2.2) 2 24) (F0 m 233 ls [])) (fun vI28 vI48 vI15 vI12 vI122 x0 x6 x7 x9 h H locs ls hw hl => ?_) H locs ls hw hl
  exact kb_L_search_233 X aI28 aI48 aI15 aI12_1 aI12_2 (fun vI28 vI48 vI15 vI12 vI122 x0 x6 x7 x9 H locs ls q hw hl => q H locs ls hw hl) hK264 vI28 vI48 vI15 vI12 vI122 x0 x6 x7 x9 _ _ _ h hw hl
set_option maxHeartbeats 4000000 in
set_option maxRecDepth 100000 in
theorem k_L_search_264 {p : Program} {l : Launch} {e : Env} {s : State} {m : MethodId} {below : List Frame} {meth : Method} {c : Code} {args : Array Value} {D : va_G} {t : T3} {A : Nat → Prop} (X : Cx p s m meth c args cL_search 10 none RL wsL_search D t A) (aI28 : Nat) (aI48 : Nat) (aI15 : Nat) (aI12_1 : Nat) (aI12_2 : Nat) {P : IV → IV → IV → IV → IV → Int32 → Int32 → Int32 → Prop} {K277 : IV → IV → IV → IV → IV → Int32 → Prop} {K176 : IV → IV → IV → IV → IV → Int32 → Prop} {Q : IV → IV → IV → Prop} (hP : ∀ (vI28 : IV) (vI48 : IV) (vI15 : IV) (vI12 : IV) (vI122 : IV) (x0 : Int32) (x6 : Int32) (x7 : Int32) (H : Heap) (locs : List Loc) (ls : Array Slot), P vI28 vI48 vI15 vI12 vI122 x0 x6 x7 → Wd D A s.heap (i28W t aI28 vI28 ++ (i48W t aI48 vI48 ++ (i15W t aI15 vI15 ++ (i12W t aI12_1 vI12 ++ (i12W t aI12_2 vI122))))) H locs → lv_has ls 10 [(0, .int x0), (1, .ref aI28), (2, .ref aI48), (3, .ref aI15), (4, .ref aI12_1), (5, .ref aI12_2), (6, .int x6), (7, .int x7)] → W p l e ({ frames := 3, cells := 2, slots := 24, locals := 79 } : Room) s m args below meth c H locs 2 24 (Ev below args s A D (fun (u : IV × IV × IV) => (i28W t aI28 u.1 ++ (i48W t aI48 u.2.1 ++ (i15W t aI15 u.2.2)))) (fun (u : IV × IV × IV) => Q u.1 u.2.1 u.2.2) 2 24) (F0 m 79 ls [])) (hK277 : ∀ (vI28 : IV) (vI48 : IV) (vI15 : IV) (vI12 : IV) (vI122 : IV) (x6 : Int32) (H : Heap) (locs : List Loc) (ls : Array Slot), K277 vI28 vI48 vI15 vI12 vI122 x6 → Wd D A s.heap (i28W t aI28 vI28 ++ (i48W t aI48 vI48 ++ (i15W t aI15 vI15 ++ (i12W t aI12_1 vI12 ++ (i12W t aI12_2 vI122))))) H locs → lv_has ls 10 [(1, .ref aI28), (5, .ref aI12_2), (6, .int x6)] → W p l e ({ frames := 3, cells := 2, slots := 24, locals := 79 } : Room) s m args below meth c H locs 2 24 (Ev below args s A D (fun (u : IV × IV × IV) => (i28W t aI28 u.1 ++ (i48W t aI48 u.2.1 ++ (i15W t aI15 u.2.2)))) (fun (u : IV × IV × IV) => Q u.1 u.2.1 u.2.2) 2 24) (F0 m 277 ls [])) (hK176 : ∀ (vI28 : IV) (vI48 : IV) (vI15 : IV) (vI12 : IV) (vI122 : IV) (x6 : Int32) (H : Heap) (locs : List Loc) (ls : Array Slot), K176 vI28 vI48 vI15 vI12 vI122 x6 → Wd D A s.heap (i28W t aI28 vI28 ++ (i48W t aI48 vI48 ++ (i15W t aI15 vI15 ++ (i12W t aI12_1 vI12 ++ (i12W t aI12_2 vI122))))) H locs → lv_has ls 10 [(1, .ref aI28), (3, .ref aI15), (5, .ref aI12_2), (6, .int x6)] → W p l e ({ frames := 3, cells := 2, slots := 24, locals := 79 } : Room) s m args below meth c H locs 2 24 (Ev below args s A D (fun (u : IV × IV × IV) => (i28W t aI28 u.1 ++ (i48W t aI48 u.2.1 ++ (i15W t aI15 u.2.2)))) (fun (u : IV × IV × IV) => Q u.1 u.2.1 u.2.2) 2 24) (F0 m 176 ls [])) : ∀ (vI28 : IV) (vI48 : IV) (vI15 : IV) (vI12 : IV) (vI122 : IV) (x0 : Int32) (x6 : Int32) (x7 : Int32) (H : Heap) (locs : List Loc) (ls : Array Slot), wp_L_search_264 P K277 K176 Q vI28 vI48 vI15 vI12 vI122 x0 x6 x7 → Wd D A s.heap (i28W t aI28 vI28 ++ (i48W t aI48 vI48 ++ (i15W t aI15 vI15 ++ (i12W t aI12_1 vI12 ++ (i12W t aI12_2 vI122))))) H locs → lv_has ls 10 [(0, .int x0), (1, .ref aI28), (2, .ref aI48), (3, .ref aI15), (4, .ref aI12_1), (5, .ref aI12_2), (6, .int x6), (7, .int x7)] → W p l e ({ frames := 3, cells := 2, slots := 24, locals := 79 } : Room) s m args below meth c H locs 2 24 (Ev below args s A D (fun (u : IV × IV × IV) => (i28W t aI28 u.1 ++ (i48W t aI48 u.2.1 ++ (i15W t aI15 u.2.2)))) (fun (u : IV × IV × IV) => Q u.1 u.2.1 u.2.2) 2 24) (F0 m 264 ls []) := by
  intro vI28 vI48 vI15 vI12 vI122 x0 x6 x7 H locs ls h hw hl
  have hx := X.1.1
  have hb := X.1.2.1
  refine lv_aload_n hx hb dL_search_264 rfl (lv_at hl 1 rfl) ?_
  refine lv_iconst (v := 4) hx hb dL_search_265 (by decide) ?_
  refine lv_aload hx hb dL_search_266 (lv_at hl 5 rfl) ?_
  refine lv_iload hx hb dL_search_268 (lv_at hl 7 rfl) ?_
  obtain ⟨hi_38, h⟩ := h
  refine r_iald (v := (vI122 (Int32.toNatClampNeg x7))) X hw 4 rfl hi_38 rfl dL_search_270 ?_
  refine lv_iadd hx hb dL_search_271 ?_
  refine lv_iconst (v := (-1)) hx hb dL_search_272 (by decide) ?_
  obtain ⟨hi_39, h⟩ := h
  obtain ⟨o_40, eo_40⟩ : ∃ z : Nat → Int32, z = upd vI28 (Int32.toNatClampNeg (4 + (vI122 (Int32.toNatClampNeg x7)))) (-1) := ⟨_, rfl⟩
  replace h := h o_40 eo_40
  refine r_iast (ws' := (i28W t aI28 o_40 ++ (i48W t aI48 vI48 ++ (i15W t aI15 vI15 ++ (i12W t aI12_1 vI12 ++ (i12W t aI12_2 vI122)))))) X hw 0 rfl hi_39 (by subst eo_40; rfl) dL_search_273 (fun H locs hw => ?_)
  refine lv_goto (tgt := 79) hx hb dL_search_274 (by decide) ?_
  exact hP _ _ _ _ _ _ _ _ _ _ _ h hw hl
set_option maxHeartbeats 4000000 in
set_option maxRecDepth 100000 in
theorem kb_L_search_79 {p : Program} {l : Launch} {e : Env} {s : State} {m : MethodId} {below : List Frame} {meth : Method} {c : Code} {args : Array Value} {D : va_G} {t : T3} {A : Nat → Prop} (X : Cx p s m meth c args cL_search 10 none RL wsL_search D t A) (aI28 : Nat) (aI48 : Nat) (aI15 : Nat) (aI12_1 : Nat) (aI12_2 : Nat) {Q : IV → IV → IV → Prop} {P : IV → IV → IV → IV → IV → Int32 → Int32 → Int32 → Prop} {K277 : IV → IV → IV → IV → IV → Int32 → Prop} {K176 : IV → IV → IV → IV → IV → Int32 → Prop} (hP : ∀ (vI28 : IV) (vI48 : IV) (vI15 : IV) (vI12 : IV) (vI122 : IV) (x0 : Int32) (x6 : Int32) (x7 : Int32) (H : Heap) (locs : List Loc) (ls : Array Slot), P vI28 vI48 vI15 vI12 vI122 x0 x6 x7 → Wd D A s.heap (i28W t aI28 vI28 ++ (i48W t aI48 vI48 ++ (i15W t aI15 vI15 ++ (i12W t aI12_1 vI12 ++ (i12W t aI12_2 vI122))))) H locs → lv_has ls 10 [(0, .int x0), (1, .ref aI28), (2, .ref aI48), (3, .ref aI15), (4, .ref aI12_1), (5, .ref aI12_2), (6, .int x6), (7, .int x7)] → W p l e ({ frames := 3, cells := 2, slots := 24, locals := 79 } : Room) s m args below meth c H locs 2 24 (Ev below args s A D (fun (u : IV × IV × IV) => (i28W t aI28 u.1 ++ (i48W t aI48 u.2.1 ++ (i15W t aI15 u.2.2)))) (fun (u : IV × IV × IV) => Q u.1 u.2.1 u.2.2) 2 24) (F0 m 79 ls [])) (hK277 : ∀ (vI28 : IV) (vI48 : IV) (vI15 : IV) (vI12 : IV) (vI122 : IV) (x6 : Int32) (H : Heap) (locs : List Loc) (ls : Array Slot), K277 vI28 vI48 vI15 vI12 vI122 x6 → Wd D A s.heap (i28W t aI28 vI28 ++ (i48W t aI48 vI48 ++ (i15W t aI15 vI15 ++ (i12W t aI12_1 vI12 ++ (i12W t aI12_2 vI122))))) H locs → lv_has ls 10 [(1, .ref aI28), (5, .ref aI12_2), (6, .int x6)] → W p l e ({ frames := 3, cells := 2, slots := 24, locals := 79 } : Room) s m args below meth c H locs 2 24 (Ev below args s A D (fun (u : IV × IV × IV) => (i28W t aI28 u.1 ++ (i48W t aI48 u.2.1 ++ (i15W t aI15 u.2.2)))) (fun (u : IV × IV × IV) => Q u.1 u.2.1 u.2.2) 2 24) (F0 m 277 ls [])) (hK176 : ∀ (vI28 : IV) (vI48 : IV) (vI15 : IV) (vI12 : IV) (vI122 : IV) (x6 : Int32) (H : Heap) (locs : List Loc) (ls : Array Slot), K176 vI28 vI48 vI15 vI12 vI122 x6 → Wd D A s.heap (i28W t aI28 vI28 ++ (i48W t aI48 vI48 ++ (i15W t aI15 vI15 ++ (i12W t aI12_1 vI12 ++ (i12W t aI12_2 vI122))))) H locs → lv_has ls 10 [(1, .ref aI28), (3, .ref aI15), (5, .ref aI12_2), (6, .int x6)] → W p l e ({ frames := 3, cells := 2, slots := 24, locals := 79 } : Room) s m args below meth c H locs 2 24 (Ev below args s A D (fun (u : IV × IV × IV) => (i28W t aI28 u.1 ++ (i48W t aI48 u.2.1 ++ (i15W t aI15 u.2.2)))) (fun (u : IV × IV × IV) => Q u.1 u.2.1 u.2.2) 2 24) (F0 m 176 ls [])) : ∀ (vI28 : IV) (vI48 : IV) (vI15 : IV) (vI12 : IV) (vI122 : IV) (x0 : Int32) (x6 : Int32) (x7 : Int32) (H : Heap) (locs : List Loc) (ls : Array Slot), bd_L_search_79 Q P K277 K176 vI28 vI48 vI15 vI12 vI122 x0 x6 x7 → Wd D A s.heap (i28W t aI28 vI28 ++ (i48W t aI48 vI48 ++ (i15W t aI15 vI15 ++ (i12W t aI12_1 vI12 ++ (i12W t aI12_2 vI122))))) H locs → lv_has ls 10 [(0, .int x0), (1, .ref aI28), (2, .ref aI48), (3, .ref aI15), (4, .ref aI12_1), (5, .ref aI12_2), (6, .int x6), (7, .int x7)] → W p l e ({ frames := 3, cells := 2, slots := 24, locals := 79 } : Room) s m args below meth c H locs 2 24 (Ev below args s A D (fun (u : IV × IV × IV) => (i28W t aI28 u.1 ++ (i48W t aI48 u.2.1 ++ (i15W t aI15 u.2.2)))) (fun (u : IV × IV × IV) => Q u.1 u.2.1 u.2.2) 2 24) (F0 m 79 ls []) := by
  intro vI28 vI48 vI15 vI12 vI122 x0 x6 x7 H locs ls h hw hl
  have hx := X.1.1
  have hb := X.1.2.1
  refine lv_iload hx hb dL_search_79 (lv_at hl 6 rfl) ?_
  refine lv_if_le (tgt := 277) hx hb dL_search_81 (by decide) (fun c_72 => ?_) (fun c_72 => ?_)
  · replace h := h.1 c_72
    exact hK277 _ _ _ _ _ _ _ _ _ h hw (lv_sub hl [1, 5, 6] rfl)
  replace h := h.2 c_72
  refine lv_iload hx hb dL_search_84 (lv_at hl 7 rfl) ?_
  refine lv_if_lt (tgt := 277) hx hb dL_search_86 (by decide) (fun c_71 => ?_) (fun c_71 => ?_)
  · replace h := h.1 c_71
    exact hK277 _ _ _ _ _ _ _ _ _ h hw (lv_sub hl [1, 5, 6] rfl)
  replace h := h.2 c_71
  refine lv_aload_n hx hb dL_search_89 rfl (lv_at hl 3 rfl) ?_
  refine lv_iconst (v := 0) hx hb dL_search_90 (by decide) ?_
  refine r_iald (v := (vI15 0)) X hw 2 rfl (vpl rfl) rfl dL_search_91 ?_
  refine lv_iload_n hx hb dL_search_92 rfl (lv_at hl 0 rfl) ?_
  refine lv_icmp_ge (tgt := 277) hx hb dL_search_93 (by decide) (fun c_70 => ?_) (fun c_70 => ?_)
  · replace h := h.1 c_70
    exact hK277 _ _ _ _ _ _ _ _ _ h hw (lv_sub hl [1, 5, 6] rfl)
  replace h := h.2 c_70
  refine lv_aload hx hb dL_search_96 (lv_at hl 4 rfl) ?_
  refine lv_iload hx hb dL_search_98 (lv_at hl 7 rfl) ?_
  obtain ⟨hi_21, h⟩ := h
  refine r_iald (v := (vI12 (Int32.toNatClampNeg x7))) X hw 3 rfl hi_21 rfl dL_search_100 ?_
  refine lv_bipush (v := 8) hx hb dL_search_101 (by decide) ?_
  refine lv_aload_n hx hb dL_search_103 rfl (lv_at hl 1 rfl) ?_
  refine lv_iconst (v := 3) hx hb dL_search_104 (by decide) ?_
  refine r_iald (v := (vI28 3)) X hw 0 rfl (vpl rfl) rfl dL_search_105 ?_
  refine lv_imul hx hb dL_search_106 ?_
  refine lv_icmp_ne (tgt := 137) hx hb dL_search_107 (by decide) (fun c_69 => ?_) (fun c_69 => ?_)
  · replace h := h.1 c_69
    refine lv_aload hx hb dL_search_137 (lv_at hl 4 rfl) ?_
    refine lv_iload hx hb dL_search_139 (lv_at hl 7 rfl) ?_
    refine lv_dup2_11 hx hb dL_search_141 rfl rfl ?_
    obtain ⟨hi_22, h⟩ := h
    refine r_iald (v := (vI12 (Int32.toNatClampNeg x7))) X hw 3 rfl hi_22 rfl dL_search_142 ?_
    refine lv_topi (fun q_23 eq_23 => ?_)
    replace h := h q_23 eq_23
    refine lv_dup_x2 hx hb dL_search_143 rfl rfl rfl ?_
    refine lv_iconst (v := 1) hx hb dL_search_144 (by decide) ?_
    refine lv_iadd hx hb dL_search_145 ?_
    refine lv_topi (fun f_24 ef_24 => ?_)
    replace h := h f_24 ef_24
    obtain ⟨hi_25, h⟩ := h
    obtain ⟨o_26, eo_26⟩ : ∃ z : Nat → Int32, z = upd vI12 (Int32.toNatClampNeg x7) f_24 := ⟨_, rfl⟩
    replace h := h o_26 eo_26
    refine r_iast (ws' := (i28W t aI28 vI28 ++ (i48W t aI48 vI48 ++ (i15W t aI15 vI15 ++ (i12W t aI12_1 o_26 ++ (i12W t aI12_2 vI122)))))) X hw 3 rfl hi_25 (by subst eo_26; rfl) dL_search_146 (fun H locs hw => ?_)
    refine lv_istore (lv' := [(8, .int q_23), (0, .int x0), (1, .ref aI28), (2, .ref aI48), (3, .ref aI15), (4, .ref aI12_1), (5, .ref aI12_2), (6, .int x6), (7, .int x7)]) hx hb dL_search_147 hl (by decide) rfl (fun ls hl => ?_)
    refine lv_aload hx hb dL_search_149 (lv_at hl 6 rfl) ?_
    refine lv_iload hx hb dL_search_151 (lv_at hl 8 rfl) ?_
    obtain ⟨hi_27, h⟩ := h
    refine r_iald (v := (vI122 (Int32.toNatClampNeg x7))) X hw 4 rfl hi_27 rfl dL_search_153 ?_
    refine lv_iload hx hb dL_search_154 (lv_at hl 0 rfl) ?_
    refine lv_aload_n hx hb dL_search_156 rfl (lv_at hl 2 rfl) ?_
    refine lv_aload_n hx hb dL_search_157 rfl (lv_at hl 3 rfl) ?_
    refine r_ci X hw (pm_2 (pm_l pm_0) (pm_r (pm_l pm_0))) (wn := fun (u : IV × IV) => (i28W t aI28 u.1 ++ (i48W t aI48 u.2 ++ (i15W t aI15 vI15 ++ (i12W t aI12_1 o_26 ++ (i12W t aI12_2 vI122)))))) (fun u => (pm_2 (pm_l pm_0) (pm_r (pm_l pm_0))).symm) (r_runS X hw (c_L_why l D t aI28 aI48 vI28 vI48 (vI122 (Int32.toNatClampNeg x7)) q_23 _ h) (pm_2 (pm_l pm_0) (pm_r (pm_l pm_0))) (va_cwS 4 X.1.2.2.2.2 gL_search_L_why rfl rfl rfl (by decide +kernel) ⟨Nat.le_of_ble_eq_true rfl, Nat.le_of_ble_eq_true rfl⟩) rfl hl rfl (Nat.le_of_ble_eq_true rfl) dL_search_158 ⟨Nat.le_of_ble_eq_true rfl, Nat.le_of_ble_eq_true rfl⟩) (fun r_30 u H locs h hw => ?_)
    obtain ⟨vI28_28, vI48_29⟩ := u
    refine lv_if_le (tgt := 167) hx hb dL_search_161 (by decide) (fun c_61 => ?_) (fun c_61 => ?_)
    · replace h := h.1 c_61
      refine lv_aload_n hx hb dL_search_167 rfl (lv_at hl 4 rfl) ?_
      refine lv_iconst (v := 1) hx hb dL_search_168 (by decide) ?_
      refine r_iald (v := (vI15 1)) X hw 2 rfl (vpl rfl) rfl dL_search_169 ?_
      refine lv_sipush (v := 600) hx hb dL_search_170 (by decide) ?_
      refine lv_icmp_ne (tgt := 183) hx hb dL_search_173 (by decide) (fun c_60 => ?_) (fun c_60 => ?_)
      · replace h := h.1 c_60
        refine lv_aload_n hx hb dL_search_183 rfl (lv_at hl 4 rfl) ?_
        refine lv_iconst (v := 1) hx hb dL_search_184 (by decide) ?_
        refine lv_dup2_11 hx hb dL_search_185 rfl rfl ?_
        refine r_iald (v := (vI15 1)) X hw 2 rfl (vpl rfl) rfl dL_search_186 ?_
        refine lv_iconst (v := 1) hx hb dL_search_187 (by decide) ?_
        refine lv_iadd hx hb dL_search_188 ?_
        refine lv_topi (fun f_31 ef_31 => ?_)
        replace h := h f_31 ef_31
        obtain ⟨o_32, eo_32⟩ : ∃ z : Nat → Int32, z = upd vI15 1 f_31 := ⟨_, rfl⟩
        replace h := h o_32 eo_32
        refine r_iast (ws' := (i28W t aI28 vI28_28 ++ (i48W t aI48 vI48_29 ++ (i15W t aI15 o_32 ++ (i12W t aI12_1 o_26 ++ (i12W t aI12_2 vI122)))))) X hw 2 rfl (vpl rfl) (by subst eo_32; rfl) dL_search_189 (fun H locs hw => ?_)
        refine lv_aload_n hx hb dL_search_190 rfl (lv_at hl 2 rfl) ?_
        refine lv_iconst (v := 4) hx hb dL_search_191 (by decide) ?_
        refine lv_aload hx hb dL_search_192 (lv_at hl 6 rfl) ?_
        refine lv_iload hx hb dL_search_194 (lv_at hl 8 rfl) ?_
        obtain ⟨hi_33, h⟩ := h
        refine r_iald (v := (vI122 (Int32.toNatClampNeg x7))) X hw 4 rfl hi_33 rfl dL_search_196 ?_
        refine lv_iadd hx hb dL_search_197 ?_
        refine lv_iload hx hb dL_search_198 (lv_at hl 0 rfl) ?_
        obtain ⟨hi_34, h⟩ := h
        obtain ⟨o_35, eo_35⟩ : ∃ z : Nat → Int32, z = upd vI28_28 (Int32.toNatClampNeg (4 + (vI122 (Int32.toNatClampNeg x7)))) q_23 := ⟨_, rfl⟩
        replace h := h o_35 eo_35
        refine r_iast (ws' := (i28W t aI28 o_35 ++ (i48W t aI48 vI48_29 ++ (i15W t aI15 o_32 ++ (i12W t aI12_1 o_26 ++ (i12W t aI12_2 vI122)))))) X hw 0 rfl hi_34 (by subst eo_35; rfl) dL_search_200 (fun H locs hw => ?_)
        refine lv_iload hx hb dL_search_201 (lv_at hl 8 rfl) ?_
        refine lv_iconst (v := 1) hx hb dL_search_203 (by decide) ?_
        refine lv_iadd hx hb dL_search_204 ?_
        refine lv_iload hx hb dL_search_205 (lv_at hl 7 rfl) ?_
        refine lv_icmp_ge (tgt := 216) hx hb dL_search_207 (by decide) (fun c_59 => ?_) (fun c_59 => ?_)
        · replace h := h.1 c_59
          refine lv_aload_n hx hb dL_search_216 rfl (lv_at hl 4 rfl) ?_
          refine lv_iconst (v := 0) hx hb dL_search_217 (by decide) ?_
          refine lv_dup2_11 hx hb dL_search_218 rfl rfl ?_
          refine r_iald (v := (o_32 0)) X hw 2 rfl (vpl rfl) rfl dL_search_219 ?_
          refine lv_iconst (v := 1) hx hb dL_search_220 (by decide) ?_
          refine lv_iadd hx hb dL_search_221 ?_
          refine lv_topi (fun f_36 ef_36 => ?_)
          replace h := h f_36 ef_36
          obtain ⟨o_37, eo_37⟩ : ∃ z : Nat → Int32, z = upd o_32 0 f_36 := ⟨_, rfl⟩
          replace h := h o_37 eo_37
          refine r_iast (ws' := (i28W t aI28 o_35 ++ (i48W t aI48 vI48_29 ++ (i15W t aI15 o_37 ++ (i12W t aI12_1 o_26 ++ (i12W t aI12_2 vI122)))))) X hw 2 rfl (vpl rfl) (by subst eo_37; rfl) dL_search_222 (fun H locs hw => ?_)
          refine lv_aload_n hx hb dL_search_223 rfl (lv_at hl 4 rfl) ?_
          refine lv_iconst (v := 0) hx hb dL_search_224 (by decide) ?_
          refine r_iald (v := (o_37 0)) X hw 2 rfl (vpl rfl) rfl dL_search_225 ?_
          refine lv_iconst (v := 1) hx hb dL_search_226 (by decide) ?_
          refine lv_icmp_ne (tgt := 264) hx hb dL_search_227 (by decide) (fun c_57 => ?_) (fun c_57 => ?_)
          · replace h := h.1 c_57
            exact k_L_search_264 X aI28 aI48 aI15 aI12_1 aI12_2 hP hK277 hK176 _ _ _ _ _ _ _ _ _ _ _ h hw (lv_sub hl [1, 2, 3, 4, 5, 6, 7, 8] rfl)
          replace h := h.2 c_57
          refine lv_iconst (v := 0) hx hb dL_search_230 (by decide) ?_
          refine lv_istore (lv' := [(9, .int 0), (8, .int q_23), (0, .int x0), (1, .ref aI28), (2, .ref aI48), (3, .ref aI15), (4, .ref aI12_1), (5, .ref aI12_2), (6, .int x6), (7, .int x7)]) hx hb dL_search_231 hl (by decide) rfl (fun ls hl => ?_)
          refine k_L_search_233 X aI28 aI48 aI15 aI12_1 aI12_2 (fun vI28_49 vI48_50 vI15_51 vI12_52 vI122_53 x0_54 x6_55 x7_56 H locs ls h hw hl => ?_) _ _ _ _ _ _ _ _ _ _ _ _ h hw (lv_sub hl [2, 3, 4, 5, 6, 7, 8, 9, 0] rfl)
          exact k_L_search_264 X aI28 aI48 aI15 aI12_1 aI12_2 hP hK277 hK176 _ _ _ _ _ _ _ _ _ _ _ h hw hl
        replace h := h.2 c_59
        obtain ⟨x7_58, ex7_58⟩ : ∃ z : Int32, z = x7 + 1 := ⟨_, rfl⟩
        replace h := h x7_58 ex7_58
        refine lv_iinc (v := x7_58) (lv' := [(7, .int x7_58), (8, .int q_23), (0, .int x0), (1, .ref aI28), (2, .ref aI48), (3, .ref aI15), (4, .ref aI12_1), (5, .ref aI12_2), (6, .int x6)]) hx hb dL_search_210 hl (k := 8) rfl (by rw [ex7_58]; rfl) (by decide) rfl (fun ls hl => ?_)
        refine lv_goto (tgt := 79) hx hb dL_search_213 (by decide) ?_
        exact hP _ _ _ _ _ _ _ _ _ _ _ h hw (lv_sub hl [2, 3, 4, 5, 6, 7, 8, 0] rfl)
      replace h := h.2 c_60
      exact hK176 _ _ _ _ _ _ _ _ _ h hw (lv_sub hl [2, 4, 6, 7] rfl)
    replace h := h.2 c_61
    refine lv_goto (tgt := 79) hx hb dL_search_164 (by decide) ?_
    exact hP _ _ _ _ _ _ _ _ _ _ _ h hw (lv_sub hl [1, 2, 3, 4, 5, 6, 7, 8] rfl)
  replace h := h.2 c_69
  refine lv_aload hx hb dL_search_110 (lv_at hl 4 rfl) ?_
  refine lv_iload hx hb dL_search_112 (lv_at hl 7 rfl) ?_
  refine lv_iconst (v := 0) hx hb dL_search_114 (by decide) ?_
  obtain ⟨hi_62, h⟩ := h
  obtain ⟨o_63, eo_63⟩ : ∃ z : Nat → Int32, z = upd vI12 (Int32.toNatClampNeg x7) 0 := ⟨_, rfl⟩
  replace h := h o_63 eo_63
  refine r_iast (ws' := (i28W t aI28 vI28 ++ (i48W t aI48 vI48 ++ (i15W t aI15 vI15 ++ (i12W t aI12_1 o_63 ++ (i12W t aI12_2 vI122)))))) X hw 3 rfl hi_62 (by subst eo_63; rfl) dL_search_115 (fun H locs hw => ?_)
  obtain ⟨x7_64, ex7_64⟩ : ∃ z : Int32, z = x7 + (-1) := ⟨_, rfl⟩
  replace h := h x7_64 ex7_64
  refine lv_iinc (v := x7_64) (lv' := [(7, .int x7_64), (0, .int x0), (1, .ref aI28), (2, .ref aI48), (3, .ref aI15), (4, .ref aI12_1), (5, .ref aI12_2), (6, .int x6)]) hx hb dL_search_116 hl (k := 7) rfl (by rw [ex7_64]; rfl) (by decide) rfl (fun ls hl => ?_)
  refine lv_iload hx hb dL_search_119 (lv_at hl 0 rfl) ?_
  refine lv_if_lt (tgt := 79) hx hb dL_search_121 (by decide) (fun c_68 => ?_) (fun c_68 => ?_)
  · replace h := h.1 c_68
    exact hP _ _ _ _ _ _ _ _ _ _ _ h hw (lv_sub hl [1, 2, 3, 4, 5, 6, 7, 0] rfl)
  replace h := h.2 c_68
  refine lv_aload_n hx hb dL_search_124 rfl (lv_at hl 2 rfl) ?_
  refine lv_iconst (v := 4) hx hb dL_search_125 (by decide) ?_
  refine lv_aload hx hb dL_search_126 (lv_at hl 6 rfl) ?_
  refine lv_iload hx hb dL_search_128 (lv_at hl 0 rfl) ?_
  obtain ⟨hi_65, h⟩ := h
  refine r_iald (v := (vI122 (Int32.toNatClampNeg x7_64))) X hw 4 rfl hi_65 rfl dL_search_130 ?_
  refine lv_iadd hx hb dL_search_131 ?_
  refine lv_iconst (v := (-1)) hx hb dL_search_132 (by decide) ?_
  obtain ⟨hi_66, h⟩ := h
  obtain ⟨o_67, eo_67⟩ : ∃ z : Nat → Int32, z = upd vI28 (Int32.toNatClampNeg (4 + (vI122 (Int32.toNatClampNeg x7_64)))) (-1) := ⟨_, rfl⟩
  replace h := h o_67 eo_67
  refine r_iast (ws' := (i28W t aI28 o_67 ++ (i48W t aI48 vI48 ++ (i15W t aI15 vI15 ++ (i12W t aI12_1 o_63 ++ (i12W t aI12_2 vI122)))))) X hw 0 rfl hi_66 (by subst eo_67; rfl) dL_search_133 (fun H locs hw => ?_)
  refine lv_goto (tgt := 79) hx hb dL_search_134 (by decide) ?_
  exact hP _ _ _ _ _ _ _ _ _ _ _ h hw (lv_sub hl [1, 2, 3, 4, 5, 6, 7, 0] rfl)
set_option maxHeartbeats 4000000 in
set_option maxRecDepth 100000 in
theorem k_L_search_79 {p : Program} {l : Launch} {e : Env} {s : State} {m : MethodId} {below : List Frame} {meth : Method} {c : Code} {args : Array Value} {D : va_G} {t : T3} {A : Nat → Prop} (X : Cx p s m meth c args cL_search 10 none RL wsL_search D t A) (aI28 : Nat) (aI48 : Nat) (aI15 : Nat) (aI12_1 : Nat) (aI12_2 : Nat) {Q : IV → IV → IV → Prop} {K277 : IV → IV → IV → IV → IV → Int32 → Prop} {K176 : IV → IV → IV → IV → IV → Int32 → Prop} (hK277 : ∀ (vI28 : IV) (vI48 : IV) (vI15 : IV) (vI12 : IV) (vI122 : IV) (x6 : Int32) (H : Heap) (locs : List Loc) (ls : Array Slot), K277 vI28 vI48 vI15 vI12 vI122 x6 → Wd D A s.heap (i28W t aI28 vI28 ++ (i48W t aI48 vI48 ++ (i15W t aI15 vI15 ++ (i12W t aI12_1 vI12 ++ (i12W t aI12_2 vI122))))) H locs → lv_has ls 10 [(1, .ref aI28), (5, .ref aI12_2), (6, .int x6)] → W p l e ({ frames := 3, cells := 2, slots := 24, locals := 79 } : Room) s m args below meth c H locs 2 24 (Ev below args s A D (fun (u : IV × IV × IV) => (i28W t aI28 u.1 ++ (i48W t aI48 u.2.1 ++ (i15W t aI15 u.2.2)))) (fun (u : IV × IV × IV) => Q u.1 u.2.1 u.2.2) 2 24) (F0 m 277 ls [])) (hK176 : ∀ (vI28 : IV) (vI48 : IV) (vI15 : IV) (vI12 : IV) (vI122 : IV) (x6 : Int32) (H : Heap) (locs : List Loc) (ls : Array Slot), K176 vI28 vI48 vI15 vI12 vI122 x6 → Wd D A s.heap (i28W t aI28 vI28 ++ (i48W t aI48 vI48 ++ (i15W t aI15 vI15 ++ (i12W t aI12_1 vI12 ++ (i12W t aI12_2 vI122))))) H locs → lv_has ls 10 [(1, .ref aI28), (3, .ref aI15), (5, .ref aI12_2), (6, .int x6)] → W p l e ({ frames := 3, cells := 2, slots := 24, locals := 79 } : Room) s m args below meth c H locs 2 24 (Ev below args s A D (fun (u : IV × IV × IV) => (i28W t aI28 u.1 ++ (i48W t aI48 u.2.1 ++ (i15W t aI15 u.2.2)))) (fun (u : IV × IV × IV) => Q u.1 u.2.1 u.2.2) 2 24) (F0 m 176 ls [])) : ∀ (vI28 : IV) (vI48 : IV) (vI15 : IV) (vI12 : IV) (vI122 : IV) (x0 : Int32) (x6 : Int32) (x7 : Int32) (H : Heap) (locs : List Loc) (ls : Array Slot), wp_L_search_79 Q K277 K176 vI28 vI48 vI15 vI12 vI122 x0 x6 x7 → Wd D A s.heap (i28W t aI28 vI28 ++ (i48W t aI48 vI48 ++ (i15W t aI15 vI15 ++ (i12W t aI12_1 vI12 ++ (i12W t aI12_2 vI122))))) H locs → lv_has ls 10 [(0, .int x0), (1, .ref aI28), (2, .ref aI48), (3, .ref aI15), (4, .ref aI12_1), (5, .ref aI12_2), (6, .int x6), (7, .int x7)] → W p l e ({ frames := 3, cells := 2, slots := 24, locals := 79 } : Room) s m args below meth c H locs 2 24 (Ev below args s A D (fun (u : IV × IV × IV) => (i28W t aI28 u.1 ++ (i48W t aI48 u.2.1 ++ (i15W t aI15 u.2.2)))) (fun (u : IV × IV × IV) => Q u.1 u.2.1 u.2.2) 2 24) (F0 m 79 ls []) := by
  intro vI28 vI48 vI15 vI12 vI122 x0 x6 x7 H locs ls h hw hl
  have hx := X.1.1
  have hb := X.1.2.1
  refine h (fun (vI28 : IV) (vI48 : IV) (vI15 : IV) (vI12 : IV) (vI122 : IV) (x0 : Int32) (x6 : Int32) (x7 : Int32) => ∀ (H : Heap) (locs : List Loc) (ls : Array Slot), Wd D A s.heap (i28W t aI28 vI28 ++ (i48W t aI48 vI48 ++ (i15W t aI15 vI15 ++ (i12W t aI12_1 vI12 ++ (i12W t aI12_2 vI122))))) H locs → lv_has ls 10 [(0, .int x0), (1, .ref aI28), (2, .ref aI48), (3, .ref aI15), (4, .ref aI12_1), (5, .ref aI12_2), (6, .int x6), (7, .int x7)] → W p l e ({ frames := 3, cells := 2, slots := 24, locals := 79 } : Room) s m args below meth c H locs 2 24 (Ev below args s A D (fun (u : IV × IV × IV) => (i28W t aI28 u.1 ++ (i48W t aI48 u.2.1 ++ (i15W t aI15 u.2.2)))) (fun (u : IV × IV × IV) => Q u.1 u.2.1 u.2.2) 2 24) (F0 m 79 ls [])) (fun vI28 vI48 vI15 vI12 vI122 x0 x6 x7 h H locs ls hw hl => ?_) H locs ls hw hl
  exact kb_L_search_79 X aI28 aI48 aI15 aI12_1 aI12_2 (fun vI28 vI48 vI15 vI12 vI122 x0 x6 x7 H locs ls q hw hl => q H locs ls hw hl) hK277 hK176 vI28 vI48 vI15 vI12 vI122 x0 x6 x7 _ _ _ h hw hl
set_option maxHeartbeats 4000000 in
set_option maxRecDepth 100000 in
theorem kb_L_search_280 {p : Program} {l : Launch} {e : Env} {s : State} {m : MethodId} {below : List Frame} {meth : Method} {c : Code} {args : Array Value} {D : va_G} {t : T3} {A : Nat → Prop} (X : Cx p s m meth c args cL_search 10 none RL wsL_search D t A) (aI28 : Nat) (aI48 : Nat) (aI15 : Nat) (aI12_1 : Nat) (aI12_2 : Nat) {Q : IV → IV → IV → Prop} {P : IV → IV → IV → IV → IV → Int32 → Int32 → Prop} (hP : ∀ (vI28 : IV) (vI48 : IV) (vI15 : IV) (vI12 : IV) (vI122 : IV) (x6 : Int32) (x8 : Int32) (H : Heap) (locs : List Loc) (ls : Array Slot), P vI28 vI48 vI15 vI12 vI122 x6 x8 → Wd D A s.heap (i28W t aI28 vI28 ++ (i48W t aI48 vI48 ++ (i15W t aI15 vI15 ++ (i12W t aI12_1 vI12 ++ (i12W t aI12_2 vI122))))) H locs → lv_has ls 10 [(1, .ref aI28), (5, .ref aI12_2), (6, .int x6), (8, .int x8)] → W p l e ({ frames := 3, cells := 2, slots := 24, locals := 79 } : Room) s m args below meth c H locs 2 24 (Ev below args s A D (fun (u : IV × IV × IV) => (i28W t aI28 u.1 ++ (i48W t aI48 u.2.1 ++ (i15W t aI15 u.2.2)))) (fun (u : IV × IV × IV) => Q u.1 u.2.1 u.2.2) 2 24) (F0 m 280 ls [])) : ∀ (vI28 : IV) (vI48 : IV) (vI15 : IV) (vI12 : IV) (vI122 : IV) (x6 : Int32) (x8 : Int32) (H : Heap) (locs : List Loc) (ls : Array Slot), bd_L_search_280 Q P  vI28 vI48 vI15 vI12 vI122 x6 x8 → Wd D A s.heap (i28W t aI28 vI28 ++ (i48W t aI48 vI48 ++ (i15W t aI15 vI15 ++ (i12W t aI12_1 vI12 ++ (i12W t aI12_2 vI122))))) H locs → lv_has ls 10 [(1, .ref aI28), (5, .ref aI12_2), (6, .int x6), (8, .int x8)] → W p l e ({ frames := 3, cells := 2, slots := 24, locals := 79 } : Room) s m args below meth c H locs 2 24 (Ev below args s A D (fun (u : IV × IV × IV) => (i28W t aI28 u.1 ++ (i48W t aI48 u.2.1 ++ (i15W t aI15 u.2.2)))) (fun (u : IV × IV × IV) => Q u.1 u.2.1 u.2.2) 2 24) (F0 m 280 ls []) := by
  intro vI28 vI48 vI15 vI12 vI122 x6 x8 H locs ls h hw hl
  have hx := X.1.1
  have hb := X.1.2.1
  refine lv_iload hx hb dL_search_280 (lv_at hl 3 rfl) ?_
  refine lv_iload hx hb dL_search_282 (lv_at hl 2 rfl) ?_
  refine lv_icmp_ge (tgt := 303) hx hb dL_search_284 (by decide) (fun c_83 => ?_) (fun c_83 => ?_)
  · replace h := h.1 c_83
    replace hw := Wd.part (pm_2 (pm_l pm_0) (pm_2 (pm_r (pm_l pm_0)) (pm_r (pm_r (pm_l pm_0))))) hw
    exact e_v (w1 := (fun (u : IV × IV × IV) => (i28W t aI28 u.1 ++ (i48W t aI48 u.2.1 ++ (i15W t aI15 u.2.2))))) X (vI28, vI48, vI15) hw h dL_search_303
  replace h := h.2 c_83
  refine lv_aload_n hx hb dL_search_287 rfl (lv_at hl 0 rfl) ?_
  refine lv_iconst (v := 4) hx hb dL_search_288 (by decide) ?_
  refine lv_aload hx hb dL_search_289 (lv_at hl 1 rfl) ?_
  refine lv_iload hx hb dL_search_291 (lv_at hl 3 rfl) ?_
  obtain ⟨hi_79, h⟩ := h
  refine r_iald (v := (vI122 (Int32.toNatClampNeg x8))) X hw 4 rfl hi_79 rfl dL_search_293 ?_
  refine lv_iadd hx hb dL_search_294 ?_
  refine lv_iconst (v := (-1)) hx hb dL_search_295 (by decide) ?_
  obtain ⟨hi_80, h⟩ := h
  obtain ⟨o_81, eo_81⟩ : ∃ z : Nat → Int32, z = upd vI28 (Int32.toNatClampNeg (4 + (vI122 (Int32.toNatClampNeg x8)))) (-1) := ⟨_, rfl⟩
  replace h := h o_81 eo_81
  refine r_iast (ws' := (i28W t aI28 o_81 ++ (i48W t aI48 vI48 ++ (i15W t aI15 vI15 ++ (i12W t aI12_1 vI12 ++ (i12W t aI12_2 vI122)))))) X hw 0 rfl hi_80 (by subst eo_81; rfl) dL_search_296 (fun H locs hw => ?_)
  obtain ⟨x8_82, ex8_82⟩ : ∃ z : Int32, z = x8 + 1 := ⟨_, rfl⟩
  replace h := h x8_82 ex8_82
  refine lv_iinc (v := x8_82) (lv' := [(8, .int x8_82), (1, .ref aI28), (5, .ref aI12_2), (6, .int x6)]) hx hb dL_search_297 hl (k := 3) rfl (by rw [ex8_82]; rfl) (by decide) rfl (fun ls hl => ?_)
  refine lv_goto (tgt := 280) hx hb dL_search_300 (by decide) ?_
  exact hP _ _ _ _ _ _ _ _ _ _ h hw (lv_sub hl [1, 2, 3, 0] rfl)
set_option maxHeartbeats 4000000 in
set_option maxRecDepth 100000 in
theorem k_L_search_280 {p : Program} {l : Launch} {e : Env} {s : State} {m : MethodId} {below : List Frame} {meth : Method} {c : Code} {args : Array Value} {D : va_G} {t : T3} {A : Nat → Prop} (X : Cx p s m meth c args cL_search 10 none RL wsL_search D t A) (aI28 : Nat) (aI48 : Nat) (aI15 : Nat) (aI12_1 : Nat) (aI12_2 : Nat) {Q : IV → IV → IV → Prop}   : ∀ (vI28 : IV) (vI48 : IV) (vI15 : IV) (vI12 : IV) (vI122 : IV) (x6 : Int32) (x8 : Int32) (H : Heap) (locs : List Loc) (ls : Array Slot), wp_L_search_280 Q  vI28 vI48 vI15 vI12 vI122 x6 x8 → Wd D A s.heap (i28W t aI28 vI28 ++ (i48W t aI48 vI48 ++ (i15W t aI15 vI15 ++ (i12W t aI12_1 vI12 ++ (i12W t aI12_2 vI122))))) H locs → lv_has ls 10 [(1, .ref aI28), (5, .ref aI12_2), (6, .int x6), (8, .int x8)] → W p l e ({ frames := 3, cells := 2, slots := 24, locals := 79 } : Room) s m args below meth c H locs 2 24 (Ev below args s A D (fun (u : IV × IV × IV) => (i28W t aI28 u.1 ++ (i48W t aI48 u.2.1 ++ (i15W t aI15 u.2.2)))) (fun (u : IV × IV × IV) => Q u.1 u.2.1 u.2.2) 2 24) (F0 m 280 ls []) := by
  intro vI28 vI48 vI15 vI12 vI122 x6 x8 H locs ls h hw hl
  have hx := X.1.1
  have hb := X.1.2.1
  refine h (fun (vI28 : IV) (vI48 : IV) (vI15 : IV) (vI12 : IV) (vI122 : IV) (x6 : Int32) (x8 : Int32) => ∀ (H : Heap) (locs : List Loc) (ls : Array Slot), Wd D A s.heap (i28W t aI28 vI28 ++ (i48W t aI48 vI48 ++ (i15W t aI15 vI15 ++ (i12W t aI12_1 vI12 ++ (i12W t aI12_2 vI122))))) H locs → lv_has ls 10 [(1, .ref aI28), (5, .ref aI12_2), (6, .int x6), (8, .int x8)] → W p l e ({ frames := 3, cells := 2, slots := 24, locals := 79 } : Room) s m args below meth c H locs 2 24 (Ev below args s A D (fun (u : IV × IV × IV) => (i28W t aI28 u.1 ++ (i48W t aI48 u.2.1 ++ (i15W t aI15 u.2.2)))) (fun (u : IV × IV × IV) => Q u.1 u.2.1 u.2.2) 2 24) (F0 m 280 ls [])) (fun vI28 vI48 vI15 vI12 vI122 x6 x8 h H locs ls hw hl => ?_) H locs ls hw hl
  exact kb_L_search_280 X aI28 aI48 aI15 aI12_1 aI12_2 (fun vI28 vI48 vI15 vI12 vI122 x6 x8 H locs ls q hw hl => q H locs ls hw hl)  vI28 vI48 vI15 vI12 vI122 x6 x8 _ _ _ h hw hl
set_option maxHeartbeats 4000000 in
set_option maxRecDepth 100000 in
theorem k_L_search_277 {p : Program} {l : Launch} {e : Env} {s : State} {m : MethodId} {below : List Frame} {meth : Method} {c : Code} {args : Array Value} {D : va_G} {t : T3} {A : Nat → Prop} (X : Cx p s m meth c args cL_search 10 none RL wsL_search D t A) (aI28 : Nat) (aI48 : Nat) (aI15 : Nat) (aI12_1 : Nat) (aI12_2 : Nat) {Q : IV → IV → IV → Prop}  : ∀ (vI28 : IV) (vI48 : IV) (vI15 : IV) (vI12 : IV) (vI122 : IV) (x6 : Int32) (H : Heap) (locs : List Loc) (ls : Array Slot), wp_L_search_277 Q vI28 vI48 vI15 vI12 vI122 x6 → Wd D A s.heap (i28W t aI28 vI28 ++ (i48W t aI48 vI48 ++ (i15W t aI15 vI15 ++ (i12W t aI12_1 vI12 ++ (i12W t aI12_2 vI122))))) H locs → lv_has ls 10 [(1, .ref aI28), (5, .ref aI12_2), (6, .int x6)] → W p l e ({ frames := 3, cells := 2, slots := 24, locals := 79 } : Room) s m args below meth c H locs 2 24 (Ev below args s A D (fun (u : IV × IV × IV) => (i28W t aI28 u.1 ++ (i48W t aI48 u.2.1 ++ (i15W t aI15 u.2.2)))) (fun (u : IV × IV × IV) => Q u.1 u.2.1 u.2.2) 2 24) (F0 m 277 ls []) := by
  intro vI28 vI48 vI15 vI12 vI122 x6 H locs ls h hw hl
  have hx := X.1.1
  have hb := X.1.2.1
  refine lv_iconst (v := 0) hx hb dL_search_277 (by decide) ?_
  refine lv_istore (lv' := [(8, .int 0), (1, .ref aI28), (5, .ref aI12_2), (6, .int x6)]) hx hb dL_search_278 hl (by decide) rfl (fun ls hl => ?_)
  refine k_L_search_280 X aI28 aI48 aI15 aI12_1 aI12_2  _ _ _ _ _ _ _ _ _ _ h hw (lv_sub hl [1, 2, 3, 0] rfl)
set_option maxHeartbeats 4000000 in
set_option maxRecDepth 100000 in
theorem k_L_search_67 {p : Program} {l : Launch} {e : Env} {s : State} {m : MethodId} {below : List Frame} {meth : Method} {c : Code} {args : Array Value} {D : va_G} {t : T3} {A : Nat → Prop} (X : Cx p s m meth c args cL_search 10 none RL wsL_search D t A) (aI28 : Nat) (aI48 : Nat) (aI15 : Nat) (aI12_1 : Nat) (aI12_2 : Nat) {Q : IV → IV → IV → Prop}  : ∀ (vI28 : IV) (vI48 : IV) (vI15 : IV) (vI12 : IV) (vI122 : IV) (x0 : Int32) (x6 : Int32) (t1 : Int32) (t2 : Int32) (H : Heap) (locs : List Loc) (ls : Array Slot), wp_L_search_67 Q vI28 vI48 vI15 vI12 vI122 x0 x6 t1 t2 → Wd D A s.heap (i28W t aI28 vI28 ++ (i48W t aI48 vI48 ++ (i15W t aI15 vI15 ++ (i12W t aI12_1 vI12 ++ (i12W t aI12_2 vI122))))) H locs → lv_has ls 10 [(0, .int x0), (1, .ref aI28), (2, .ref aI48), (3, .ref aI15), (4, .ref aI12_1), (5, .ref aI12_2), (6, .int x6)] → W p l e ({ frames := 3, cells := 2, slots := 24, locals := 79 } : Room) s m args below meth c H locs 2 24 (Ev below args s A D (fun (u : IV × IV × IV) => (i28W t aI28 u.1 ++ (i48W t aI48 u.2.1 ++ (i15W t aI15 u.2.2)))) (fun (u : IV × IV × IV) => Q u.1 u.2.1 u.2.2) 2 24) (F0 m 67 ls [.int t2, .int t1, .ref aI15]) := by
  intro vI28 vI48 vI15 vI12 vI122 x0 x6 t1 t2 H locs ls h hw hl
  have hx := X.1.1
  have hb := X.1.2.1
  obtain ⟨hi_17, h⟩ := h
  obtain ⟨o_18, eo_18⟩ : ∃ z : Nat → Int32, z = upd vI15 (Int32.toNatClampNeg t1) t2 := ⟨_, rfl⟩
  replace h := h o_18 eo_18
  refine r_iast (ws' := (i28W t aI28 vI28 ++ (i48W t aI48 vI48 ++ (i15W t aI15 o_18 ++ (i12W t aI12_1 vI12 ++ (i12W t aI12_2 vI122)))))) X hw 2 rfl hi_17 (by subst eo_18; rfl) dL_search_67 (fun H locs hw => ?_)
  refine lv_aload_n hx hb dL_search_68 rfl (lv_at hl 3 rfl) ?_
  refine lv_iconst (v := 1) hx hb dL_search_69 (by decide) ?_
  refine lv_iconst (v := 0) hx hb dL_search_70 (by decide) ?_
  obtain ⟨o_19, eo_19⟩ : ∃ z : Nat → Int32, z = upd o_18 1 0 := ⟨_, rfl⟩
  replace h := h o_19 eo_19
  refine r_iast (ws' := (i28W t aI28 vI28 ++ (i48W t aI48 vI48 ++ (i15W t aI15 o_19 ++ (i12W t aI12_1 vI12 ++ (i12W t aI12_2 vI122)))))) X hw 2 rfl (vpl rfl) (by subst eo_19; rfl) dL_search_71 (fun H locs hw => ?_)
  refine lv_aload_n hx hb dL_search_72 rfl (lv_at hl 3 rfl) ?_
  refine lv_iconst (v := 2) hx hb dL_search_73 (by decide) ?_
  refine lv_iconst (v := 0) hx hb dL_search_74 (by decide) ?_
  obtain ⟨o_20, eo_20⟩ : ∃ z : Nat → Int32, z = upd o_19 2 0 := ⟨_, rfl⟩
  replace h := h o_20 eo_20
  refine r_iast (ws' := (i28W t aI28 vI28 ++ (i48W t aI48 vI48 ++ (i15W t aI15 o_20 ++ (i12W t aI12_1 vI12 ++ (i12W t aI12_2 vI122)))))) X hw 2 rfl (vpl rfl) (by subst eo_20; rfl) dL_search_75 (fun H locs hw => ?_)
  refine lv_iconst (v := 0) hx hb dL_search_76 (by decide) ?_
  refine lv_istore (lv' := [(7, .int 0), (0, .int x0), (1, .ref aI28), (2, .ref aI48), (3, .ref aI15), (4, .ref aI12_1), (5, .ref aI12_2), (6, .int x6)]) hx hb dL_search_77 hl (by decide) rfl (fun ls hl => ?_)
  refine k_L_search_79 X aI28 aI48 aI15 aI12_1 aI12_2 (fun vI28_73 vI48_74 vI15_75 vI12_76 vI122_77 x6_78 H locs ls h hw hl => ?_) (fun vI28_84 vI48_85 vI15_86 vI12_87 vI122_88 x6_89 H locs ls h hw hl => ?_) _ _ _ _ _ _ _ _ _ _ _ h hw (lv_sub hl [1, 2, 3, 4, 5, 6, 7, 0] rfl)
  · exact k_L_search_277 X aI28 aI48 aI15 aI12_1 aI12_2 _ _ _ _ _ _ _ _ _ h hw hl
  refine lv_aload_n hx hb dL_search_176 rfl (lv_at hl 1 rfl) ?_
  refine lv_iconst (v := 2) hx hb dL_search_177 (by decide) ?_
  refine lv_iconst (v := 1) hx hb dL_search_178 (by decide) ?_
  obtain ⟨o_90, eo_90⟩ : ∃ z : Nat → Int32, z = upd vI15_86 2 1 := ⟨_, rfl⟩
  replace h := h o_90 eo_90
  refine r_iast (ws' := (i28W t aI28 vI28_84 ++ (i48W t aI48 vI48_85 ++ (i15W t aI15 o_90 ++ (i12W t aI12_1 vI12_87 ++ (i12W t aI12_2 vI122_88)))))) X hw 2 rfl (vpl rfl) (by subst eo_90; rfl) dL_search_179 (fun H locs hw => ?_)
  refine lv_goto (tgt := 277) hx hb dL_search_180 (by decide) ?_
  exact k_L_search_277 X aI28 aI48 aI15 aI12_1 aI12_2 _ _ _ _ _ _ _ _ _ h hw (lv_sub hl [0, 2, 3] rfl)
set_option maxHeartbeats 4000000 in
set_option maxRecDepth 100000 in
theorem c_L_search (l : Launch) (D : va_G) (t : T3) (aI28 : Nat) (aI48 : Nat) (aI15 : Nat) (vI28 : IV) (vI48 : IV) (vI15 : IV) (p0 : Int32) (Q : IV → IV → IV → Prop) (h : wp_L_search vI28 vI48 vI15 p0 Q) : Ct l yL_search wsL_search 3 79 2 24 [.int p0, .ref aI28, .ref aI48, .ref aI15] D t (i28W t aI28 vI28 ++ (i48W t aI48 vI48 ++ (i15W t aI15 vI15))) (fun sz => Qv D (i28W t aI28 vI28 ++ (i48W t aI48 vI48 ++ (i15W t aI15 vI15))) (fun (u : IV × IV × IV) => (i28W t aI28 u.1 ++ (i48W t aI48 u.2.1 ++ (i15W t aI15 u.2.2)))) (fun (u : IV × IV × IV) => Q u.1 u.2.1 u.2.2) sz) := by
  refine Ct.of (Qf := fun _ A => va_Qv (fun (u : IV × IV × IV) => Q u.1 u.2.1 u.2.2) (B1 D (fun (u : IV × IV × IV) => (i28W t aI28 u.1 ++ (i48W t aI48 u.2.1 ++ (i15W t aI15 u.2.2)))) A) A) cL_search 10 none (by decide) rfl (Nat.le_of_ble_eq_true rfl) ?_
  intro p e s m below meth c A ls hAe hin X hw hl
  generalize ([.int p0, .ref aI28, .ref aI48, .ref aI15] : List Value).toArray = args at X ⊢
  have hl : lv_has ls 10 [(0, .int p0), (1, .ref aI28), (2, .ref aI48), (3, .ref aI15)] := hl
  have hx := X.1.1
  have hb := X.1.2.1
  refine lv_bipush (v := 12) hx hb dL_search_0 (by decide) ?_
  refine r_newI X hw arI_L_search (by decide) (N := 12) (by decide) (by decide) (Nat.le_of_ble_eq_true rfl) (Nat.le_of_ble_eq_true rfl) (wn := fun aI12_1 => (i28W t aI28 vI28 ++ (i48W t aI48 vI48 ++ (i15W t aI15 vI15 ++ (i12W t aI12_1 (fun _ => 0)))))) (fun q => ap_3 _ _ _ _) dL_search_2 (fun aI12_1 H hw => ?_)
  refine lv_astore (lv' := [(4, .ref aI12_1), (0, .int p0), (1, .ref aI28), (2, .ref aI48), (3, .ref aI15)]) hx hb dL_search_4 hl (by decide) rfl (fun ls hl => ?_)
  refine lv_bipush (v := 12) hx hb dL_search_6 (by decide) ?_
  refine r_newI X hw arI_L_search (by decide) (N := 12) (by decide) (by decide) (Nat.le_of_ble_eq_true rfl) (Nat.le_of_ble_eq_true rfl) (wn := fun aI12_2 => (i28W t aI28 vI28 ++ (i48W t aI48 vI48 ++ (i15W t aI15 vI15 ++ (i12W t aI12_1 (fun _ => 0) ++ (i12W t aI12_2 (fun _ => 0))))))) (fun q => ap_4 _ _ _ _ _) dL_search_8 (fun aI12_2 H hw => ?_)
  refine lv_astore (lv' := [(5, .ref aI12_2), (4, .ref aI12_1), (0, .int p0), (1, .ref aI28), (2, .ref aI48), (3, .ref aI15)]) hx hb dL_search_10 hl (by decide) rfl (fun ls hl => ?_)
  refine lv_iconst (v := 0) hx hb dL_search_12 (by decide) ?_
  refine lv_istore (lv' := [(6, .int 0), (5, .ref aI12_2), (4, .ref aI12_1), (0, .int p0), (1, .ref aI28), (2, .ref aI48), (3, .ref aI15)]) hx hb dL_search_13 hl (by decide) rfl (fun ls hl => ?_)
  refine lv_iconst (v := 0) hx hb dL_search_15 (by decide) ?_
  refine lv_istore (lv' := [(7, .int 0), (6, .int 0), (5, .ref aI12_2), (4, .ref aI12_1), (0, .int p0), (1, .ref aI28), (2, .ref aI48), (3, .ref aI15)]) hx hb dL_search_16 hl (by decide) rfl (fun ls hl => ?_)
  refine k_L_search_18 X aI28 aI48 aI15 aI12_1 aI12_2 (fun vI28_10 vI48_11 vI15_12 vI12_13 vI122_14 x0_15 x6_16 H locs ls h hw hl => ?_) _ _ _ _ _ _ _ _ _ _ _ h hw (lv_sub hl [4, 5, 6, 7, 3, 2, 1, 0] rfl)
  refine lv_aload_n hx hb dL_search_55 rfl (lv_at hl 3 rfl) ?_
  refine lv_iconst (v := 0) hx hb dL_search_56 (by decide) ?_
  refine lv_iload hx hb dL_search_57 (lv_at hl 6 rfl) ?_
  refine lv_if_ne (tgt := 66) hx hb dL_search_59 (by decide) (fun c_91 => ?_) (fun c_91 => ?_)
  · replace h := h.1 c_91
    refine lv_iconst (v := 0) hx hb dL_search_66 (by decide) ?_
    exact k_L_search_67 X aI28 aI48 aI15 aI12_1 aI12_2 _ _ _ _ _ _ _ _ _ _ _ _ h hw hl
  replace h := h.2 c_91
  refine lv_iconst (v := 1) hx hb dL_search_62 (by decide) ?_
  refine lv_goto (tgt := 67) hx hb dL_search_63 (by decide) ?_
  exact k_L_search_67 X aI28 aI48 aI15 aI12_1 aI12_2 _ _ _ _ _ _ _ _ _ _ _ _ h hw hl
/-! L_cut -/
set_option maxHeartbeats 4000000 in
set_option maxRecDepth 100000 in
theorem kb_L_cut_15 {p : Program} {l : Launch} {e : Env} {s : State} {m : MethodId} {below : List Frame} {meth : Method} {c : Code} {args : Array Value} {D : va_G} {t : T3} {A : Nat → Prop} (X : Cx p s m meth c args cL_cut 11 none RL wsL_cut D t A) (aI28 : Nat) (aI48 : Nat) {Q : IV → IV → Prop} {P : IV → IV → Int32 → Int32 → Int32 → Int32 → Int32 → Prop} {K33 : IV → IV → Int32 → Int32 → Int32 → Int32 → Prop} (hP : ∀ (vI28 : IV) (vI48 : IV) (x0 : Int32) (x1 : Int32) (x4 : Int32) (x5 : Int32) (x6 : Int32) (H : Heap) (locs : List Loc) (ls : Array Slot), P vI28 vI48 x0 x1 x4 x5 x6 → Wd D A s.heap (i28W t aI28 vI28 ++ (i48W t aI48 vI48)) H locs → lv_has ls 11 [(0, .int x0), (1, .int x1), (2, .ref aI28), (3, .ref aI48), (4, .int x4), (5, .int x5), (6, .int x6)] → W p l e ({ frames := 1, cells := 0, slots := 0, locals := 24 } : Room) s m args below meth c H locs 0 0 (Ev below args s A D (fun (u : IV × IV) => (i28W t aI28 u.1 ++ (i48W t aI48 u.2))) (fun (u : IV × IV) => Q u.1 u.2) 0 0) (F0 m 15 ls [])) (hK33 : ∀ (vI28 : IV) (vI48 : IV) (x0 : Int32) (x1 : Int32) (x4 : Int32) (x5 : Int32) (H : Heap) (locs : List Loc) (ls : Array Slot), K33 vI28 vI48 x0 x1 x4 x5 → Wd D A s.heap (i28W t aI28 vI28 ++ (i48W t aI48 vI48)) H locs → lv_has ls 11 [(0, .int x0), (1, .int x1), (2, .ref aI28), (3, .ref aI48), (4, .int x4), (5, .int x5)] → W p l e ({ frames := 1, cells := 0, slots := 0, locals := 24 } : Room) s m args below meth c H locs 0 0 (Ev below args s A D (fun (u : IV × IV) => (i28W t aI28 u.1 ++ (i48W t aI48 u.2))) (fun (u : IV × IV) => Q u.1 u.2) 0 0) (F0 m 33 ls [])) : ∀ (vI28 : IV) (vI48 : IV) (x0 : Int32) (x1 : Int32) (x4 : Int32) (x5 : Int32) (x6 : Int32) (H : Heap) (locs : List Loc) (ls : Array Slot), bd_L_cut_15 Q P K33 vI28 vI48 x0 x1 x4 x5 x6 → Wd D A s.heap (i28W t aI28 vI28 ++ (i48W t aI48 vI48)) H locs → lv_has ls 11 [(0, .int x0), (1, .int x1), (2, .ref aI28), (3, .ref aI48), (4, .int x4), (5, .int x5), (6, .int x6)] → W p l e ({ frames := 1, cells := 0, slots := 0, locals := 24 } : Room) s m args below meth c H locs 0 0 (Ev below args s A D (fun (u : IV × IV) => (i28W t aI28 u.1 ++ (i48W t aI48 u.2))) (fun (u : IV × IV) => Q u.1 u.2) 0 0) (F0 m 15 ls []) := by
  intro vI28 vI48 x0 x1 x4 x5 x6 H locs ls h hw hl
  have hx := X.1.1
  have hb := X.1.2.1
  refine lv_iload hx hb dL_cut_15 (lv_at hl 6 rfl) ?_
  refine lv_bipush (v := 48) hx hb dL_cut_17 (by decide) ?_
  refine lv_icmp_ge (tgt := 33) hx hb dL_cut_19 (by decide) (fun c_5 => ?_) (fun c_5 => ?_)
  · replace h := h.1 c_5
    exact hK33 _ _ _ _ _ _ _ _ _ h hw (lv_sub hl [0, 1, 2, 3, 4, 5] rfl)
  replace h := h.2 c_5
  refine lv_aload_n hx hb dL_cut_22 rfl (lv_at hl 3 rfl) ?_
  refine lv_iload hx hb dL_cut_23 (lv_at hl 6 rfl) ?_
  refine lv_iconst (v := 0) hx hb dL_cut_25 (by decide) ?_
  obtain ⟨hi_2, h⟩ := h
  obtain ⟨o_3, eo_3⟩ : ∃ z : Nat → Int32, z = upd vI48 (Int32.toNatClampNeg x6) 0 := ⟨_, rfl⟩
  replace h := h o_3 eo_3
  refine r_iast (ws' := (i28W t aI28 vI28 ++ (i48W t aI48 o_3))) X hw 1 rfl hi_2 (by subst eo_3; rfl) dL_cut_26 (fun H locs hw => ?_)
  obtain ⟨x6_4, ex6_4⟩ : ∃ z : Int32, z = x6 + 1 := ⟨_, rfl⟩
  replace h := h x6_4 ex6_4
  refine lv_iinc (v := x6_4) (lv' := [(6, .int x6_4), (0, .int x0), (1, .int x1), (2, .ref aI28), (3, .ref aI48), (4, .int x4), (5, .int x5)]) hx hb dL_cut_27 hl (k := 6) rfl (by rw [ex6_4]; rfl) (by decide) rfl (fun ls hl => ?_)
  refine lv_goto (tgt := 15) hx hb dL_cut_30 (by decide) ?_
  exact hP _ _ _ _ _ _ _ _ _ _ h hw (lv_sub hl [1, 2, 3, 4, 5, 6, 0] rfl)
set_option maxHeartbeats 4000000 in
set_option maxRecDepth 100000 in
theorem k_L_cut_15 {p : Program} {l : Launch} {e : Env} {s : State} {m : MethodId} {below : List Frame} {meth : Method} {c : Code} {args : Array Value} {D : va_G} {t : T3} {A : Nat → Prop} (X : Cx p s m meth c args cL_cut 11 none RL wsL_cut D t A) (aI28 : Nat) (aI48 : Nat) {Q : IV → IV → Prop} {K33 : IV → IV → Int32 → Int32 → Int32 → Int32 → Prop} (hK33 : ∀ (vI28 : IV) (vI48 : IV) (x0 : Int32) (x1 : Int32) (x4 : Int32) (x5 : Int32) (H : Heap) (locs : List Loc) (ls : Array Slot), K33 vI28 vI48 x0 x1 x4 x5 → Wd D A s.heap (i28W t aI28 vI28 ++ (i48W t aI48 vI48)) H locs → lv_has ls 11 [(0, .int x0), (1, .int x1), (2, .ref aI28), (3, .ref aI48), (4, .int x4), (5, .int x5)] → W p l e ({ frames := 1, cells := 0, slots := 0, locals := 24 } : Room) s m args below meth c H locs 0 0 (Ev below args s A D (fun (u : IV × IV) => (i28W t aI28 u.1 ++ (i48W t aI48 u.2))) (fun (u : IV × IV) => Q u.1 u.2) 0 0) (F0 m 33 ls [])) : ∀ (vI28 : IV) (vI48 : IV) (x0 : Int32) (x1 : Int32) (x4 : Int32) (x5 : Int32) (x6 : Int32) (H : Heap) (locs : List Loc) (ls : Array Slot), wp_L_cut_15 Q K33 vI28 vI48 x0 x1 x4 x5 x6 → Wd D A s.heap (i28W t aI28 vI28 ++ (i48W t aI48 vI48)) H locs → lv_has ls 11 [(0, .int x0), (1, .int x1), (2, .ref aI28), (3, .ref aI48), (4, .int x4), (5, .int x5), (6, .int x6)] → W p l e ({ frames := 1, cells := 0, slots := 0, locals := 24 } : Room) s m args below meth c H locs 0 0 (Ev below args s A D (fun (u : IV × IV) => (i28W t aI28 u.1 ++ (i48W t aI48 u.2))) (fun (u : IV × IV) => Q u.1 u.2) 0 0) (F0 m 15 ls []) := by
  intro vI28 vI48 x0 x1 x4 x5 x6 H locs ls h hw hl
  have hx := X.1.1
  have hb := X.1.2.1
  refine h (fun (vI28 : IV) (vI48 : IV) (x0 : Int32) (x1 : Int32) (x4 : Int32) (x5 : Int32) (x6 : Int32) => ∀ (H : Heap) (locs : List Loc) (ls : Array Slot), Wd D A s.heap (i28W t aI28 vI28 ++ (i48W t aI48 vI48)) H locs → lv_has ls 11 [(0, .int x0), (1, .int x1), (2, .ref aI28), (3, .ref aI48), (4, .int x4), (5, .int x5), (6, .int x6)] → W p l e ({ frames := 1, cells := 0, slots := 0, locals := 24 } : Room) s m args below meth c H locs 0 0 (Ev below args s A D (fun (u : IV × IV) => (i28W t aI28 u.1 ++ (i48W t aI48 u.2))) (fun (u : IV × IV) => Q u.1 u.2) 0 0) (F0 m 15 ls [])) (fun vI28 vI48 x0 x1 x4 x5 x6 h H locs ls hw hl => ?_) H locs ls hw hl
  exact kb_L_cut_15 X aI28 aI48 (fun vI28 vI48 x0 x1 x4 x5 x6 H locs ls q hw hl => q H locs ls hw hl) hK33 vI28 vI48 x0 x1 x4 x5 x6 _ _ _ h hw hl
set_option maxHeartbeats 4000000 in
set_option maxRecDepth 100000 in
theorem k_L_cut_216 {p : Program} {l : Launch} {e : Env} {s : State} {m : MethodId} {below : List Frame} {meth : Method} {c : Code} {args : Array Value} {D : va_G} {t : T3} {A : Nat → Prop} (X : Cx p s m meth c args cL_cut 11 none RL wsL_cut D t A) (aI28 : Nat) (aI48 : Nat) {P : IV → IV → Int32 → Int32 → Int32 → Int32 → Int32 → Int32 → Prop} {K222 : IV → IV → Int32 → Int32 → Int32 → Int32 → Int32 → Prop} {Q : IV → IV → Prop} (hP : ∀ (vI28 : IV) (vI48 : IV) (x0 : Int32) (x1 : Int32) (x4 : Int32) (x5 : Int32) (x6 : Int32) (x7 : Int32) (H : Heap) (locs : List Loc) (ls : Array Slot), P vI28 vI48 x0 x1 x4 x5 x6 x7 → Wd D A s.heap (i28W t aI28 vI28 ++ (i48W t aI48 vI48)) H locs → lv_has ls 11 [(0, .int x0), (1, .int x1), (2, .ref aI28), (3, .ref aI48), (4, .int x4), (5, .int x5), (6, .int x6), (7, .int x7)] → W p l e ({ frames := 1, cells := 0, slots := 0, locals := 24 } : Room) s m args below meth c H locs 0 0 (Ev below args s A D (fun (u : IV × IV) => (i28W t aI28 u.1 ++ (i48W t aI48 u.2))) (fun (u : IV × IV) => Q u.1 u.2) 0 0) (F0 m 61 ls [])) (hK222 : ∀ (vI28 : IV) (vI48 : IV) (x0 : Int32) (x1 : Int32) (x4 : Int32) (x5 : Int32) (x6 : Int32) (H : Heap) (locs : List Loc) (ls : Array Slot), K222 vI28 vI48 x0 x1 x4 x5 x6 → Wd D A s.heap (i28W t aI28 vI28 ++ (i48W t aI48 vI48)) H locs → lv_has ls 11 [(0, .int x0), (1, .int x1), (2, .ref aI28), (3, .ref aI48), (4, .int x4), (5, .int x5), (6, .int x6)] → W p l e ({ frames := 1, cells := 0, slots := 0, locals := 24 } : Room) s m args below meth c H locs 0 0 (Ev below args s A D (fun (u : IV × IV) => (i28W t aI28 u.1 ++ (i48W t aI48 u.2))) (fun (u : IV × IV) => Q u.1 u.2) 0 0) (F0 m 222 ls [])) : ∀ (vI28 : IV) (vI48 : IV) (x0 : Int32) (x1 : Int32) (x4 : Int32) (x5 : Int32) (x6 : Int32) (x7 : Int32) (H : Heap) (locs : List Loc) (ls : Array Slot), wp_L_cut_216 P K222 Q vI28 vI48 x0 x1 x4 x5 x6 x7 → Wd D A s.heap (i28W t aI28 vI28 ++ (i48W t aI48 vI48)) H locs → lv_has ls 11 [(0, .int x0), (1, .int x1), (2, .ref aI28), (3, .ref aI48), (4, .int x4), (5, .int x5), (6, .int x6), (7, .int x7)] → W p l e ({ frames := 1, cells := 0, slots := 0, locals := 24 } : Room) s m args below meth c H locs 0 0 (Ev below args s A D (fun (u : IV × IV) => (i28W t aI28 u.1 ++ (i48W t aI48 u.2))) (fun (u : IV × IV) => Q u.1 u.2) 0 0) (F0 m 216 ls []) := by
  intro vI28 vI48 x0 x1 x4 x5 x6 x7 H locs ls h hw hl
  have hx := X.1.1
  have hb := X.1.2.1
  obtain ⟨x7_24, ex7_24⟩ : ∃ z : Int32, z = x7 + 1 := ⟨_, rfl⟩
  replace h := h x7_24 ex7_24
  refine lv_iinc (v := x7_24) (lv' := [(7, .int x7_24), (0, .int x0), (1, .int x1), (2, .ref aI28), (3, .ref aI48), (4, .int x4), (5, .int x5), (6, .int x6)]) hx hb dL_cut_216 hl (k := 7) rfl (by rw [ex7_24]; rfl) (by decide) rfl (fun ls hl => ?_)
  refine lv_goto (tgt := 61) hx hb dL_cut_219 (by decide) ?_
  exact hP _ _ _ _ _ _ _ _ _ _ _ h hw (lv_sub hl [1, 2, 3, 4, 5, 6, 7, 0] rfl)
set_option maxHeartbeats 4000000 in
set_option maxRecDepth 100000 in
theorem k_L_cut_212 {p : Program} {l : Launch} {e : Env} {s : State} {m : MethodId} {below : List Frame} {meth : Method} {c : Code} {args : Array Value} {D : va_G} {t : T3} {A : Nat → Prop} (X : Cx p s m meth c args cL_cut 11 none RL wsL_cut D t A) (aI28 : Nat) (aI48 : Nat) {P : IV → IV → Int32 → Int32 → Int32 → Int32 → Int32 → Int32 → Prop} {K222 : IV → IV → Int32 → Int32 → Int32 → Int32 → Int32 → Prop} {Q : IV → IV → Prop} (hP : ∀ (vI28 : IV) (vI48 : IV) (x0 : Int32) (x1 : Int32) (x4 : Int32) (x5 : Int32) (x6 : Int32) (x7 : Int32) (H : Heap) (locs : List Loc) (ls : Array Slot), P vI28 vI48 x0 x1 x4 x5 x6 x7 → Wd D A s.heap (i28W t aI28 vI28 ++ (i48W t aI48 vI48)) H locs → lv_has ls 11 [(0, .int x0), (1, .int x1), (2, .ref aI28), (3, .ref aI48), (4, .int x4), (5, .int x5), (6, .int x6), (7, .int x7)] → W p l e ({ frames := 1, cells := 0, slots := 0, locals := 24 } : Room) s m args below meth c H locs 0 0 (Ev below args s A D (fun (u : IV × IV) => (i28W t aI28 u.1 ++ (i48W t aI48 u.2))) (fun (u : IV × IV) => Q u.1 u.2) 0 0) (F0 m 61 ls [])) (hK222 : ∀ (vI28 : IV) (vI48 : IV) (x0 : Int32) (x1 : Int32) (x4 : Int32) (x5 : Int32) (x6 : Int32) (H : Heap) (locs : List Loc) (ls : Array Slot), K222 vI28 vI48 x0 x1 x4 x5 x6 → Wd D A s.heap (i28W t aI28 vI28 ++ (i48W t aI48 vI48)) H locs → lv_has ls 11 [(0, .int x0), (1, .int x1), (2, .ref aI28), (3, .ref aI48), (4, .int x4), (5, .int x5), (6, .int x6)] → W p l e ({ frames := 1, cells := 0, slots := 0, locals := 24 } : Room) s m args below meth c H locs 0 0 (Ev below args s A D (fun (u : IV × IV) => (i28W t aI28 u.1 ++ (i48W t aI48 u.2))) (fun (u : IV × IV) => Q u.1 u.2) 0 0) (F0 m 222 ls [])) : ∀ (vI28 : IV) (vI48 : IV) (x0 : Int32) (x1 : Int32) (x4 : Int32) (x5 : Int32) (x6 : Int32) (x7 : Int32) (x10 : Int32) (t1 : Int32) (t2 : Int32) (H : Heap) (locs : List Loc) (ls : Array Slot), wp_L_cut_212 P K222 Q vI28 vI48 x0 x1 x4 x5 x6 x7 x10 t1 t2 → Wd D A s.heap (i28W t aI28 vI28 ++ (i48W t aI48 vI48)) H locs → lv_has ls 11 [(0, .int x0), (1, .int x1), (2, .ref aI28), (3, .ref aI48), (4, .int x4), (5, .int x5), (6, .int x6), (7, .int x7), (10, .int x10)] → W p l e ({ frames := 1, cells := 0, slots := 0, locals := 24 } : Room) s m args below meth c H locs 0 0 (Ev below args s A D (fun (u : IV × IV) => (i28W t aI28 u.1 ++ (i48W t aI48 u.2))) (fun (u : IV × IV) => Q u.1 u.2) 0 0) (F0 m 212 ls [.int t2, .int t1, .ref aI48]) := by
  intro vI28 vI48 x0 x1 x4 x5 x6 x7 x10 t1 t2 H locs ls h hw hl
  have hx := X.1.1
  have hb := X.1.2.1
  refine lv_iadd hx hb dL_cut_212 ?_
  refine lv_iload hx hb dL_cut_213 (lv_at hl 8 rfl) ?_
  obtain ⟨hi_22, h⟩ := h
  obtain ⟨o_23, eo_23⟩ : ∃ z : Nat → Int32, z = upd vI48 (Int32.toNatClampNeg (t1 + t2)) x10 := ⟨_, rfl⟩
  replace h := h o_23 eo_23
  refine r_iast (ws' := (i28W t aI28 vI28 ++ (i48W t aI48 o_23))) X hw 1 rfl hi_22 (by subst eo_23; rfl) dL_cut_215 (fun H locs hw => ?_)
  exact k_L_cut_216 X aI28 aI48 hP hK222 _ _ _ _ _ _ _ _ _ _ _ h hw (lv_sub hl [0, 1, 2, 3, 4, 5, 6, 7] rfl)
set_option maxHeartbeats 4000000 in
set_option maxRecDepth 100000 in
theorem k_L_cut_189 {p : Program} {l : Launch} {e : Env} {s : State} {m : MethodId} {below : List Frame} {meth : Method} {c : Code} {args : Array Value} {D : va_G} {t : T3} {A : Nat → Prop} (X : Cx p s m meth c args cL_cut 11 none RL wsL_cut D t A) (aI28 : Nat) (aI48 : Nat) {P : IV → IV → Int32 → Int32 → Int32 → Int32 → Int32 → Int32 → Prop} {K222 : IV → IV → Int32 → Int32 → Int32 → Int32 → Int32 → Prop} {Q : IV → IV → Prop} (hP : ∀ (vI28 : IV) (vI48 : IV) (x0 : Int32) (x1 : Int32) (x4 : Int32) (x5 : Int32) (x6 : Int32) (x7 : Int32) (H : Heap) (locs : List Loc) (ls : Array Slot), P vI28 vI48 x0 x1 x4 x5 x6 x7 → Wd D A s.heap (i28W t aI28 vI28 ++ (i48W t aI48 vI48)) H locs → lv_has ls 11 [(0, .int x0), (1, .int x1), (2, .ref aI28), (3, .ref aI48), (4, .int x4), (5, .int x5), (6, .int x6), (7, .int x7)] → W p l e ({ frames := 1, cells := 0, slots := 0, locals := 24 } : Room) s m args below meth c H locs 0 0 (Ev below args s A D (fun (u : IV × IV) => (i28W t aI28 u.1 ++ (i48W t aI48 u.2))) (fun (u : IV × IV) => Q u.1 u.2) 0 0) (F0 m 61 ls [])) (hK222 : ∀ (vI28 : IV) (vI48 : IV) (x0 : Int32) (x1 : Int32) (x4 : Int32) (x5 : Int32) (x6 : Int32) (H : Heap) (locs : List Loc) (ls : Array Slot), K222 vI28 vI48 x0 x1 x4 x5 x6 → Wd D A s.heap (i28W t aI28 vI28 ++ (i48W t aI48 vI48)) H locs → lv_has ls 11 [(0, .int x0), (1, .int x1), (2, .ref aI28), (3, .ref aI48), (4, .int x4), (5, .int x5), (6, .int x6)] → W p l e ({ frames := 1, cells := 0, slots := 0, locals := 24 } : Room) s m args below meth c H locs 0 0 (Ev below args s A D (fun (u : IV × IV) => (i28W t aI28 u.1 ++ (i48W t aI48 u.2))) (fun (u : IV × IV) => Q u.1 u.2) 0 0) (F0 m 222 ls [])) : ∀ (vI28 : IV) (vI48 : IV) (x0 : Int32) (x1 : Int32) (x4 : Int32) (x5 : Int32) (x6 : Int32) (x7 : Int32) (x8 : Int32) (x9 : Int32) (x10 : Int32) (t1 : Int32) (t2 : Int32) (H : Heap) (locs : List Loc) (ls : Array Slot), wp_L_cut_189 P K222 Q vI28 vI48 x0 x1 x4 x5 x6 x7 x8 x9 x10 t1 t2 → Wd D A s.heap (i28W t aI28 vI28 ++ (i48W t aI48 vI48)) H locs → lv_has ls 11 [(0, .int x0), (1, .int x1), (2, .ref aI28), (3, .ref aI48), (4, .int x4), (5, .int x5), (6, .int x6), (7, .int x7), (8, .int x8), (9, .int x9), (10, .int x10)] → W p l e ({ frames := 1, cells := 0, slots := 0, locals := 24 } : Room) s m args below meth c H locs 0 0 (Ev below args s A D (fun (u : IV × IV) => (i28W t aI28 u.1 ++ (i48W t aI48 u.2))) (fun (u : IV × IV) => Q u.1 u.2) 0 0) (F0 m 189 ls [.int t2, .int t1, .ref aI48]) := by
  intro vI28 vI48 x0 x1 x4 x5 x6 x7 x8 x9 x10 t1 t2 H locs ls h hw hl
  have hx := X.1.1
  have hb := X.1.2.1
  refine lv_iadd hx hb dL_cut_189 ?_
  refine lv_iload hx hb dL_cut_190 (lv_at hl 10 rfl) ?_
  obtain ⟨hi_20, h⟩ := h
  obtain ⟨o_21, eo_21⟩ : ∃ z : Nat → Int32, z = upd vI48 (Int32.toNatClampNeg (t1 + t2)) x10 := ⟨_, rfl⟩
  replace h := h o_21 eo_21
  refine r_iast (ws' := (i28W t aI28 vI28 ++ (i48W t aI48 o_21))) X hw 1 rfl hi_20 (by subst eo_21; rfl) dL_cut_192 (fun H locs hw => ?_)
  refine lv_aload_n hx hb dL_cut_193 rfl (lv_at hl 3 rfl) ?_
  refine lv_bipush (v := 8) hx hb dL_cut_194 (by decide) ?_
  refine lv_iload hx hb dL_cut_196 (lv_at hl 9 rfl) ?_
  refine lv_imul hx hb dL_cut_198 ?_
  refine lv_iconst (v := 4) hx hb dL_cut_199 (by decide) ?_
  refine lv_iadd hx hb dL_cut_200 ?_
  refine lv_iload hx hb dL_cut_201 (lv_at hl 8 rfl) ?_
  refine lv_iconst (v := 1) hx hb dL_cut_203 (by decide) ?_
  refine lv_icmp_ne (tgt := 211) hx hb dL_cut_204 (by decide) (fun c_25 => ?_) (fun c_25 => ?_)
  · replace h := h.1 c_25
    refine lv_iconst (v := 0) hx hb dL_cut_211 (by decide) ?_
    exact k_L_cut_212 X aI28 aI48 hP hK222 _ _ _ _ _ _ _ _ _ _ _ _ _ _ h hw (lv_sub hl [0, 1, 2, 3, 4, 5, 6, 7, 10] rfl)
  replace h := h.2 c_25
  refine lv_iconst (v := 1) hx hb dL_cut_207 (by decide) ?_
  refine lv_goto (tgt := 212) hx hb dL_cut_208 (by decide) ?_
  exact k_L_cut_212 X aI28 aI48 hP hK222 _ _ _ _ _ _ _ _ _ _ _ _ _ _ h hw (lv_sub hl [0, 1, 2, 3, 4, 5, 6, 7, 10] rfl)
set_option maxHeartbeats 4000000 in
set_option maxRecDepth 100000 in
theorem k_L_cut_163 {p : Program} {l : Launch} {e : Env} {s : State} {m : MethodId} {below : List Frame} {meth : Method} {c : Code} {args : Array Value} {D : va_G} {t : T3} {A : Nat → Prop} (X : Cx p s m meth c args cL_cut 11 none RL wsL_cut D t A) (aI28 : Nat) (aI48 : Nat) {P : IV → IV → Int32 → Int32 → Int32 → Int32 → Int32 → Int32 → Prop} {K222 : IV → IV → Int32 → Int32 → Int32 → Int32 → Int32 → Prop} {Q : IV → IV → Prop} (hP : ∀ (vI28 : IV) (vI48 : IV) (x0 : Int32) (x1 : Int32) (x4 : Int32) (x5 : Int32) (x6 : Int32) (x7 : Int32) (H : Heap) (locs : List Loc) (ls : Array Slot), P vI28 vI48 x0 x1 x4 x5 x6 x7 → Wd D A s.heap (i28W t aI28 vI28 ++ (i48W t aI48 vI48)) H locs → lv_has ls 11 [(0, .int x0), (1, .int x1), (2, .ref aI28), (3, .ref aI48), (4, .int x4), (5, .int x5), (6, .int x6), (7, .int x7)] → W p l e ({ frames := 1, cells := 0, slots := 0, locals := 24 } : Room) s m args below meth c H locs 0 0 (Ev below args s A D (fun (u : IV × IV) => (i28W t aI28 u.1 ++ (i48W t aI48 u.2))) (fun (u : IV × IV) => Q u.1 u.2) 0 0) (F0 m 61 ls [])) (hK222 : ∀ (vI28 : IV) (vI48 : IV) (x0 : Int32) (x1 : Int32) (x4 : Int32) (x5 : Int32) (x6 : Int32) (H : Heap) (locs : List Loc) (ls : Array Slot), K222 vI28 vI48 x0 x1 x4 x5 x6 → Wd D A s.heap (i28W t aI28 vI28 ++ (i48W t aI48 vI48)) H locs → lv_has ls 11 [(0, .int x0), (1, .int x1), (2, .ref aI28), (3, .ref aI48), (4, .int x4), (5, .int x5), (6, .int x6)] → W p l e ({ frames := 1, cells := 0, slots := 0, locals := 24 } : Room) s m args below meth c H locs 0 0 (Ev below args s A D (fun (u : IV × IV) => (i28W t aI28 u.1 ++ (i48W t aI48 u.2))) (fun (u : IV × IV) => Q u.1 u.2) 0 0) (F0 m 222 ls [])) : ∀ (vI28 : IV) (vI48 : IV) (x0 : Int32) (x1 : Int32) (x4 : Int32) (x5 : Int32) (x6 : Int32) (x7 : Int32) (x10 : Int32) (t1 : Int32) (t2 : Int32) (H : Heap) (locs : List Loc) (ls : Array Slot), wp_L_cut_163 P K222 Q vI28 vI48 x0 x1 x4 x5 x6 x7 x10 t1 t2 → Wd D A s.heap (i28W t aI28 vI28 ++ (i48W t aI48 vI48)) H locs → lv_has ls 11 [(0, .int x0), (1, .int x1), (2, .ref aI28), (3, .ref aI48), (4, .int x4), (5, .int x5), (6, .int x6), (7, .int x7), (10, .int x10)] → W p l e ({ frames := 1, cells := 0, slots := 0, locals := 24 } : Room) s m args below meth c H locs 0 0 (Ev below args s A D (fun (u : IV × IV) => (i28W t aI28 u.1 ++ (i48W t aI48 u.2))) (fun (u : IV × IV) => Q u.1 u.2) 0 0) (F0 m 163 ls [.int t2, .int t1, .ref aI48]) := by
  intro vI28 vI48 x0 x1 x4 x5 x6 x7 x10 t1 t2 H locs ls h hw hl
  have hx := X.1.1
  have hb := X.1.2.1
  refine lv_iadd hx hb dL_cut_163 ?_
  refine lv_iload hx hb dL_cut_164 (lv_at hl 8 rfl) ?_
  obtain ⟨hi_29, h⟩ := h
  obtain ⟨o_30, eo_30⟩ : ∃ z : Nat → Int32, z = upd vI48 (Int32.toNatClampNeg (t1 + t2)) x10 := ⟨_, rfl⟩
  replace h := h o_30 eo_30
  refine r_iast (ws' := (i28W t aI28 vI28 ++ (i48W t aI48 o_30))) X hw 1 rfl hi_29 (by subst eo_30; rfl) dL_cut_166 (fun H locs hw => ?_)
  refine lv_goto (tgt := 216) hx hb dL_cut_167 (by decide) ?_
  exact k_L_cut_216 X aI28 aI48 hP hK222 _ _ _ _ _ _ _ _ _ _ _ h hw (lv_sub hl [0, 1, 2, 3, 4, 5, 6, 7] rfl)
set_option maxHeartbeats 4000000 in
set_option maxRecDepth 100000 in
theorem k_L_cut_125 {p : Program} {l : Launch} {e : Env} {s : State} {m : MethodId} {below : List Frame} {meth : Method} {c : Code} {args : Array Value} {D : va_G} {t : T3} {A : Nat → Prop} (X : Cx p s m meth c args cL_cut 11 none RL wsL_cut D t A) (aI28 : Nat) (aI48 : Nat) {P : IV → IV → Int32 → Int32 → Int32 → Int32 → Int32 → Int32 → Prop} {K222 : IV → IV → Int32 → Int32 → Int32 → Int32 → Int32 → Prop} {Q : IV → IV → Prop} (hP : ∀ (vI28 : IV) (vI48 : IV) (x0 : Int32) (x1 : Int32) (x4 : Int32) (x5 : Int32) (x6 : Int32) (x7 : Int32) (H : Heap) (locs : List Loc) (ls : Array Slot), P vI28 vI48 x0 x1 x4 x5 x6 x7 → Wd D A s.heap (i28W t aI28 vI28 ++ (i48W t aI48 vI48)) H locs → lv_has ls 11 [(0, .int x0), (1, .int x1), (2, .ref aI28), (3, .ref aI48), (4, .int x4), (5, .int x5), (6, .int x6), (7, .int x7)] → W p l e ({ frames := 1, cells := 0, slots := 0, locals := 24 } : Room) s m args below meth c H locs 0 0 (Ev below args s A D (fun (u : IV × IV) => (i28W t aI28 u.1 ++ (i48W t aI48 u.2))) (fun (u : IV × IV) => Q u.1 u.2) 0 0) (F0 m 61 ls [])) (hK222 : ∀ (vI28 : IV) (vI48 : IV) (x0 : Int32) (x1 : Int32) (x4 : Int32) (x5 : Int32) (x6 : Int32) (H : Heap) (locs : List Loc) (ls : Array Slot), K222 vI28 vI48 x0 x1 x4 x5 x6 → Wd D A s.heap (i28W t aI28 vI28 ++ (i48W t aI48 vI48)) H locs → lv_has ls 11 [(0, .int x0), (1, .int x1), (2, .ref aI28), (3, .ref aI48), (4, .int x4), (5, .int x5), (6, .int x6)] → W p l e ({ frames := 1, cells := 0, slots := 0, locals := 24 } : Room) s m args below meth c H locs 0 0 (Ev below args s A D (fun (u : IV × IV) => (i28W t aI28 u.1 ++ (i48W t aI48 u.2))) (fun (u : IV × IV) => Q u.1 u.2) 0 0) (F0 m 222 ls [])) : ∀ (vI28 : IV) (vI48 : IV) (x0 : Int32) (x1 : Int32) (x5 : Int32) (x6 : Int32) (x7 : Int32) (x8 : Int32) (x9 : Int32) (x10 : Int32) (t0 : Int32) (H : Heap) (locs : List Loc) (ls : Array Slot), wp_L_cut_125 P K222 Q vI28 vI48 x0 x1 x5 x6 x7 x8 x9 x10 t0 → Wd D A s.heap (i28W t aI28 vI28 ++ (i48W t aI48 vI48)) H locs → lv_has ls 11 [(0, .int x0), (1, .int x1), (2, .ref aI28), (3, .ref aI48), (5, .int x5), (6, .int x6), (7, .int x7), (8, .int x8), (9, .int x9), (10, .int x10)] → W p l e ({ frames := 1, cells := 0, slots := 0, locals := 24 } : Room) s m args below meth c H locs 0 0 (Ev below args s A D (fun (u : IV × IV) => (i28W t aI28 u.1 ++ (i48W t aI48 u.2))) (fun (u : IV × IV) => Q u.1 u.2) 0 0) (F0 m 125 ls [.int t0]) := by
  intro vI28 vI48 x0 x1 x5 x6 x7 x8 x9 x10 t0 H locs ls h hw hl
  have hx := X.1.1
  have hb := X.1.2.1
  refine lv_istore (lv' := [(4, .int t0), (0, .int x0), (1, .int x1), (2, .ref aI28), (3, .ref aI48), (5, .int x5), (6, .int x6), (7, .int x7), (8, .int x8), (9, .int x9), (10, .int x10)]) hx hb dL_cut_125 hl (by decide) rfl (fun ls hl => ?_)
  refine lv_iload hx hb dL_cut_127 (lv_at hl 7 rfl) ?_
  refine lv_iconst (v := 2) hx hb dL_cut_129 (by decide) ?_
  refine r_irem hx hb dL_cut_130 (by decide) ?_
  refine lv_if_ne (tgt := 170) hx hb dL_cut_131 (by decide) (fun c_32 => ?_) (fun c_32 => ?_)
  · replace h := h.1 c_32
    refine lv_aload_n hx hb dL_cut_170 rfl (lv_at hl 4 rfl) ?_
    refine lv_bipush (v := 8) hx hb dL_cut_171 (by decide) ?_
    refine lv_iload hx hb dL_cut_173 (lv_at hl 6 rfl) ?_
    refine lv_imul hx hb dL_cut_175 ?_
    refine lv_iconst (v := 4) hx hb dL_cut_176 (by decide) ?_
    refine lv_iadd hx hb dL_cut_177 ?_
    refine lv_iload hx hb dL_cut_178 (lv_at hl 8 rfl) ?_
    refine lv_iconst (v := 1) hx hb dL_cut_180 (by decide) ?_
    refine lv_icmp_ne (tgt := 188) hx hb dL_cut_181 (by decide) (fun c_26 => ?_) (fun c_26 => ?_)
    · replace h := h.1 c_26
      refine lv_iconst (v := 2) hx hb dL_cut_188 (by decide) ?_
      exact k_L_cut_189 X aI28 aI48 hP hK222 _ _ _ _ _ _ _ _ _ _ _ _ _ _ _ _ h hw (lv_sub hl [1, 2, 3, 4, 0, 5, 6, 7, 8, 9, 10] rfl)
    replace h := h.2 c_26
    refine lv_iconst (v := 3) hx hb dL_cut_184 (by decide) ?_
    refine lv_goto (tgt := 189) hx hb dL_cut_185 (by decide) ?_
    exact k_L_cut_189 X aI28 aI48 hP hK222 _ _ _ _ _ _ _ _ _ _ _ _ _ _ _ _ h hw (lv_sub hl [1, 2, 3, 4, 0, 5, 6, 7, 8, 9, 10] rfl)
  replace h := h.2 c_32
  refine lv_aload_n hx hb dL_cut_134 rfl (lv_at hl 4 rfl) ?_
  refine lv_bipush (v := 8) hx hb dL_cut_135 (by decide) ?_
  refine lv_iload hx hb dL_cut_137 (lv_at hl 6 rfl) ?_
  refine lv_imul hx hb dL_cut_139 ?_
  refine lv_iload hx hb dL_cut_140 (lv_at hl 8 rfl) ?_
  refine lv_iadd hx hb dL_cut_142 ?_
  refine lv_iload hx hb dL_cut_143 (lv_at hl 10 rfl) ?_
  obtain ⟨hi_27, h⟩ := h
  obtain ⟨o_28, eo_28⟩ : ∃ z : Nat → Int32, z = upd vI48 (Int32.toNatClampNeg ((8 * x6) + x8)) x10 := ⟨_, rfl⟩
  replace h := h o_28 eo_28
  refine r_iast (ws' := (i28W t aI28 vI28 ++ (i48W t aI48 o_28))) X hw 1 rfl hi_27 (by subst eo_28; rfl) dL_cut_145 (fun H locs hw => ?_)
  refine lv_aload_n hx hb dL_cut_146 rfl (lv_at hl 4 rfl) ?_
  refine lv_bipush (v := 8) hx hb dL_cut_147 (by decide) ?_
  refine lv_iload hx hb dL_cut_149 (lv_at hl 9 rfl) ?_
  refine lv_imul hx hb dL_cut_151 ?_
  refine lv_iload hx hb dL_cut_152 (lv_at hl 8 rfl) ?_
  refine lv_iconst (v := 1) hx hb dL_cut_154 (by decide) ?_
  refine lv_icmp_ne (tgt := 162) hx hb dL_cut_155 (by decide) (fun c_31 => ?_) (fun c_31 => ?_)
  · replace h := h.1 c_31
    refine lv_iconst (v := 0) hx hb dL_cut_162 (by decide) ?_
    exact k_L_cut_163 X aI28 aI48 hP hK222 _ _ _ _ _ _ _ _ _ _ _ _ _ _ h hw (lv_sub hl [1, 2, 3, 4, 0, 5, 6, 7, 10] rfl)
  replace h := h.2 c_31
  refine lv_iconst (v := 3) hx hb dL_cut_158 (by decide) ?_
  refine lv_goto (tgt := 163) hx hb dL_cut_159 (by decide) ?_
  exact k_L_cut_163 X aI28 aI48 hP hK222 _ _ _ _ _ _ _ _ _ _ _ _ _ _ h hw (lv_sub hl [1, 2, 3, 4, 0, 5, 6, 7, 10] rfl)
set_option maxHeartbeats 4000000 in
set_option maxRecDepth 100000 in
theorem k_L_cut_78 {p : Program} {l : Launch} {e : Env} {s : State} {m : MethodId} {below : List Frame} {meth : Method} {c : Code} {args : Array Value} {D : va_G} {t : T3} {A : Nat → Prop} (X : Cx p s m meth c args cL_cut 11 none RL wsL_cut D t A) (aI28 : Nat) (aI48 : Nat) {P : IV → IV → Int32 → Int32 → Int32 → Int32 → Int32 → Int32 → Prop} {K222 : IV → IV → Int32 → Int32 → Int32 → Int32 → Int32 → Prop} {Q : IV → IV → Prop} (hP : ∀ (vI28 : IV) (vI48 : IV) (x0 : Int32) (x1 : Int32) (x4 : Int32) (x5 : Int32) (x6 : Int32) (x7 : Int32) (H : Heap) (locs : List Loc) (ls : Array Slot), P vI28 vI48 x0 x1 x4 x5 x6 x7 → Wd D A s.heap (i28W t aI28 vI28 ++ (i48W t aI48 vI48)) H locs → lv_has ls 11 [(0, .int x0), (1, .int x1), (2, .ref aI28), (3, .ref aI48), (4, .int x4), (5, .int x5), (6, .int x6), (7, .int x7)] → W p l e ({ frames := 1, cells := 0, slots := 0, locals := 24 } : Room) s m args below meth c H locs 0 0 (Ev below args s A D (fun (u : IV × IV) => (i28W t aI28 u.1 ++ (i48W t aI48 u.2))) (fun (u : IV × IV) => Q u.1 u.2) 0 0) (F0 m 61 ls [])) (hK222 : ∀ (vI28 : IV) (vI48 : IV) (x0 : Int32) (x1 : Int32) (x4 : Int32) (x5 : Int32) (x6 : Int32) (H : Heap) (locs : List Loc) (ls : Array Slot), K222 vI28 vI48 x0 x1 x4 x5 x6 → Wd D A s.heap (i28W t aI28 vI28 ++ (i48W t aI48 vI48)) H locs → lv_has ls 11 [(0, .int x0), (1, .int x1), (2, .ref aI28), (3, .ref aI48), (4, .int x4), (5, .int x5), (6, .int x6)] → W p l e ({ frames := 1, cells := 0, slots := 0, locals := 24 } : Room) s m args below meth c H locs 0 0 (Ev below args s A D (fun (u : IV × IV) => (i28W t aI28 u.1 ++ (i48W t aI48 u.2))) (fun (u : IV × IV) => Q u.1 u.2) 0 0) (F0 m 222 ls [])) : ∀ (vI28 : IV) (vI48 : IV) (x0 : Int32) (x1 : Int32) (x4 : Int32) (x5 : Int32) (x6 : Int32) (x7 : Int32) (t0 : Int32) (H : Heap) (locs : List Loc) (ls : Array Slot), wp_L_cut_78 P K222 Q vI28 vI48 x0 x1 x4 x5 x6 x7 t0 → Wd D A s.heap (i28W t aI28 vI28 ++ (i48W t aI48 vI48)) H locs → lv_has ls 11 [(0, .int x0), (1, .int x1), (2, .ref aI28), (3, .ref aI48), (4, .int x4), (5, .int x5), (6, .int x6), (7, .int x7)] → W p l e ({ frames := 1, cells := 0, slots := 0, locals := 24 } : Room) s m args below meth c H locs 0 0 (Ev below args s A D (fun (u : IV × IV) => (i28W t aI28 u.1 ++ (i48W t aI48 u.2))) (fun (u : IV × IV) => Q u.1 u.2) 0 0) (F0 m 78 ls [.int t0]) := by
  intro vI28 vI48 x0 x1 x4 x5 x6 x7 t0 H locs ls h hw hl
  have hx := X.1.1
  have hb := X.1.2.1
  refine lv_istore (lv' := [(8, .int t0), (0, .int x0), (1, .int x1), (2, .ref aI28), (3, .ref aI48), (4, .int x4), (5, .int x5), (6, .int x6), (7, .int x7)]) hx hb dL_cut_78 hl (by decide) rfl (fun ls hl => ?_)
  refine lv_iload hx hb dL_cut_80 (lv_at hl 7 rfl) ?_
  refine lv_iload hx hb dL_cut_82 (lv_at hl 0 rfl) ?_
  refine lv_aload_n hx hb dL_cut_84 rfl (lv_at hl 3 rfl) ?_
  refine r_ci X hw (pm_l pm_0) (wn := fun (u : IV) => (i28W t aI28 u ++ (i48W t aI48 vI48))) (fun u => (pm_l pm_0).symm) (r_runS X hw (c_L_beyond l D t aI28 vI28 x6 t0 _ h) (pm_l pm_0) (va_cwS 3 X.1.2.2.2.2 gL_cut_L_beyond rfl rfl rfl (by decide +kernel) ⟨Nat.le_of_ble_eq_true rfl, Nat.le_of_ble_eq_true rfl⟩) rfl hl rfl (Nat.le_of_ble_eq_true rfl) dL_cut_85 ⟨Nat.le_of_ble_eq_true rfl, Nat.le_of_ble_eq_true rfl⟩) (fun r_17 u H locs h hw => ?_)
  obtain ⟨vI28_16, rfl⟩ : ∃ z, z = u := ⟨_, rfl⟩
  refine lv_istore (lv' := [(9, .int r_17), (8, .int t0), (0, .int x0), (1, .int x1), (2, .ref aI28), (3, .ref aI48), (4, .int x4), (5, .int x5), (6, .int x6), (7, .int x7)]) hx hb dL_cut_88 hl (by decide) rfl (fun ls hl => ?_)
  refine lv_iload hx hb dL_cut_90 (lv_at hl 0 rfl) ?_
  refine lv_if_ge (tgt := 98) hx hb dL_cut_92 (by decide) (fun c_34 => ?_) (fun c_34 => ?_)
  · replace h := h.1 c_34
    refine lv_iconst (v := 1) hx hb dL_cut_98 (by decide) ?_
    refine lv_iload hx hb dL_cut_99 (lv_at hl 6 rfl) ?_
    refine lv_bipush (v := 10) hx hb dL_cut_101 (by decide) ?_
    refine r_irem hx hb dL_cut_103 (by decide) ?_
    refine lv_iload_n hx hb dL_cut_104 rfl (lv_at hl 3 rfl) ?_
    obtain ⟨hn_18, h⟩ := h
    refine r_irem hx hb dL_cut_105 hn_18 ?_
    refine lv_iadd hx hb dL_cut_106 ?_
    refine lv_topi (fun x10_19 ex10_19 => ?_)
    replace h := h x10_19 ex10_19
    refine lv_istore (lv' := [(10, .int x10_19), (9, .int r_17), (8, .int t0), (0, .int x0), (1, .int x1), (2, .ref aI28), (3, .ref aI48), (4, .int x4), (5, .int x5), (6, .int x6), (7, .int x7)]) hx hb dL_cut_107 hl (by decide) rfl (fun ls hl => ?_)
    refine lv_iload hx hb dL_cut_109 (lv_at hl 7 rfl) ?_
    refine lv_bipush (v := 10) hx hb dL_cut_111 (by decide) ?_
    refine lv_icmp_ge (tgt := 120) hx hb dL_cut_113 (by decide) (fun c_33 => ?_) (fun c_33 => ?_)
    · replace h := h.1 c_33
      refine lv_iload hx hb dL_cut_120 (lv_at hl 7 rfl) ?_
      refine lv_bipush (v := 10) hx hb dL_cut_122 (by decide) ?_
      refine lv_idiv hx hb dL_cut_124 (by decide) ?_
      exact k_L_cut_125 X aI28 aI48 hP hK222 _ _ _ _ _ _ _ _ _ _ _ _ _ _ h hw (lv_sub hl [3, 4, 5, 6, 8, 9, 10, 2, 1, 0] rfl)
    replace h := h.2 c_33
    refine lv_iload_n hx hb dL_cut_116 rfl (lv_at hl 3 rfl) ?_
    refine lv_goto (tgt := 125) hx hb dL_cut_117 (by decide) ?_
    exact k_L_cut_125 X aI28 aI48 hP hK222 _ _ _ _ _ _ _ _ _ _ _ _ _ _ h hw (lv_sub hl [3, 4, 5, 6, 8, 9, 10, 2, 1, 0] rfl)
  replace h := h.2 c_34
  refine lv_goto (tgt := 216) hx hb dL_cut_95 (by decide) ?_
  exact k_L_cut_216 X aI28 aI48 hP hK222 _ _ _ _ _ _ _ _ _ _ _ h hw (lv_sub hl [2, 3, 4, 5, 6, 7, 8, 9] rfl)
set_option maxHeartbeats 4000000 in
set_option maxRecDepth 100000 in
theorem kb_L_cut_61 {p : Program} {l : Launch} {e : Env} {s : State} {m : MethodId} {below : List Frame} {meth : Method} {c : Code} {args : Array Value} {D : va_G} {t : T3} {A : Nat → Prop} (X : Cx p s m meth c args cL_cut 11 none RL wsL_cut D t A) (aI28 : Nat) (aI48 : Nat) {Q : IV → IV → Prop} {P : IV → IV → Int32 → Int32 → Int32 → Int32 → Int32 → Int32 → Prop} {K222 : IV → IV → Int32 → Int32 → Int32 → Int32 → Int32 → Prop} (hP : ∀ (vI28 : IV) (vI48 : IV) (x0 : Int32) (x1 : Int32) (x4 : Int32) (x5 : Int32) (x6 : Int32) (x7 : Int32) (H : Heap) (locs : List Loc) (ls : Array Slot), P vI28 vI48 x0 x1 x4 x5 x6 x7 → Wd D A s.heap (i28W t aI28 vI28 ++ (i48W t aI48 vI48)) H locs → lv_has ls 11 [(0, .int x0), (1, .int x1), (2, .ref aI28), (3, .ref aI48), (4, .int x4), (5, .int x5), (6, .int x6), (7, .int x7)] → W p l e ({ frames := 1, cells := 0, slots := 0, locals := 24 } : Room) s m args below meth c H locs 0 0 (Ev below args s A D (fun (u : IV × IV) => (i28W t aI28 u.1 ++ (i48W t aI48 u.2))) (fun (u : IV × IV) => Q u.1 u.2) 0 0) (F0 m 61 ls [])) (hK222 : ∀ (vI28 : IV) (vI48 : IV) (x0 : Int32) (x1 : Int32) (x4 : Int32) (x5 : Int32) (x6 : Int32) (H : Heap) (locs : List Loc) (ls : Array Slot), K222 vI28 vI48 x0 x1 x4 x5 x6 → Wd D A s.heap (i28W t aI28 vI28 ++ (i48W t aI48 vI48)) H locs → lv_has ls 11 [(0, .int x0), (1, .int x1), (2, .ref aI28), (3, .ref aI48), (4, .int x4), (5, .int x5), (6, .int x6)] → W p l e ({ frames := 1, cells := 0, slots := 0, locals := 24 } : Room) s m args below meth c H locs 0 0 (Ev below args s A D (fun (u : IV × IV) => (i28W t aI28 u.1 ++ (i48W t aI48 u.2))) (fun (u : IV × IV) => Q u.1 u.2) 0 0) (F0 m 222 ls [])) : ∀ (vI28 : IV) (vI48 : IV) (x0 : Int32) (x1 : Int32) (x4 : Int32) (x5 : Int32) (x6 : Int32) (x7 : Int32) (H : Heap) (locs : List Loc) (ls : Array Slot), bd_L_cut_61 Q P K222 vI28 vI48 x0 x1 x4 x5 x6 x7 → Wd D A s.heap (i28W t aI28 vI28 ++ (i48W t aI48 vI48)) H locs → lv_has ls 11 [(0, .int x0), (1, .int x1), (2, .ref aI28), (3, .ref aI48), (4, .int x4), (5, .int x5), (6, .int x6), (7, .int x7)] → W p l e ({ frames := 1, cells := 0, slots := 0, locals := 24 } : Room) s m args below meth c H locs 0 0 (Ev below args s A D (fun (u : IV × IV) => (i28W t aI28 u.1 ++ (i48W t aI48 u.2))) (fun (u : IV × IV) => Q u.1 u.2) 0 0) (F0 m 61 ls []) := by
  intro vI28 vI48 x0 x1 x4 x5 x6 x7 H locs ls h hw hl
  have hx := X.1.1
  have hb := X.1.2.1
  refine lv_iload hx hb dL_cut_61 (lv_at hl 7 rfl) ?_
  refine lv_iconst (v := 4) hx hb dL_cut_63 (by decide) ?_
  refine lv_icmp_ge (tgt := 222) hx hb dL_cut_64 (by decide) (fun c_36 => ?_) (fun c_36 => ?_)
  · replace h := h.1 c_36
    exact hK222 _ _ _ _ _ _ _ _ _ _ h hw (lv_sub hl [0, 1, 2, 3, 4, 5, 6] rfl)
  replace h := h.2 c_36
  refine lv_iload hx hb dL_cut_67 (lv_at hl 7 rfl) ?_
  refine lv_iconst (v := 2) hx hb dL_cut_69 (by decide) ?_
  refine lv_icmp_ge (tgt := 77) hx hb dL_cut_70 (by decide) (fun c_35 => ?_) (fun c_35 => ?_)
  · replace h := h.1 c_35
    refine lv_iconst (v := 2) hx hb dL_cut_77 (by decide) ?_
    exact k_L_cut_78 X aI28 aI48 hP hK222 _ _ _ _ _ _ _ _ _ _ _ _ h hw hl
  replace h := h.2 c_35
  refine lv_iconst (v := 1) hx hb dL_cut_73 (by decide) ?_
  refine lv_goto (tgt := 78) hx hb dL_cut_74 (by decide) ?_
  exact k_L_cut_78 X aI28 aI48 hP hK222 _ _ _ _ _ _ _ _ _ _ _ _ h hw hl
set_option maxHeartbeats 4000000 in
set_option maxRecDepth 100000 in
theorem k_L_cut_61 {p : Program} {l : Launch} {e : Env} {s : State} {m : MethodId} {below : List Frame} {meth : Method} {c : Code} {args : Array Value} {D : va_G} {t : T3} {A : Nat → Prop} (X : Cx p s m meth c args cL_cut 11 none RL wsL_cut D t A) (aI28 : Nat) (aI48 : Nat) {Q : IV → IV → Prop} {K222 : IV → IV → Int32 → Int32 → Int32 → Int32 → Int32 → Prop} (hK222 : ∀ (vI28 : IV) (vI48 : IV) (x0 : Int32) (x1 : Int32) (x4 : Int32) (x5 : Int32) (x6 : Int32) (H : Heap) (locs : List Loc) (ls : Array Slot), K222 vI28 vI48 x0 x1 x4 x5 x6 → Wd D A s.heap (i28W t aI28 vI28 ++ (i48W t aI48 vI48)) H locs → lv_has ls 11 [(0, .int x0), (1, .int x1), (2, .ref aI28), (3, .ref aI48), (4, .int x4), (5, .int x5), (6, .int x6)] → W p l e ({ frames := 1, cells := 0, slots := 0, locals := 24 } : Room) s m args below meth c H locs 0 0 (Ev below args s A D (fun (u : IV × IV) => (i28W t aI28 u.1 ++ (i48W t aI48 u.2))) (fun (u : IV × IV) => Q u.1 u.2) 0 0) (F0 m 222 ls [])) : ∀ (vI28 : IV) (vI48 : IV) (x0 : Int32) (x1 : Int32) (x4 : Int32) (x5 : Int32) (x6 : Int32) (x7 : Int32) (H : Heap) (locs : List Loc) (ls : Array Slot), wp_L_cut_61 Q K222 vI28 vI48 x0 x1 x4 x5 x6 x7 → Wd D A s.heap (i28W t aI28 vI28 ++ (i48W t aI48 vI48)) H locs → lv_has ls 11 [(0, .int x0), (1, .int x1), (2, .ref aI28), (3, .ref aI48), (4, .int x4), (5, .int x5), (6, .int x6), (7, .int x7)] → W p l e ({ frames := 1, cells := 0, slots := 0, locals := 24 } : Room) s m args below meth c H locs 0 0 (Ev below args s A D (fun (u : IV × IV) => (i28W t aI28 u.1 ++ (i48W t aI48 u.2))) (fun (u : IV × IV) => Q u.1 u.2) 0 0) (F0 m 61 ls []) := by
  intro vI28 vI48 x0 x1 x4 x5 x6 x7 H locs ls h hw hl
  have hx := X.1.1
  have hb := X.1.2.1
  refine h (fun (vI28 : IV) (vI48 : IV) (x0 : Int32) (x1 : Int32) (x4 : Int32) (x5 : Int32) (x6 : Int32) (x7 : Int32) => ∀ (H : Heap) (locs : List Loc) (ls : Array Slot), Wd D A s.heap (i28W t aI28 vI28 ++ (i48W t aI48 vI48)) H locs → lv_has ls 11 [(0, .int x0), (1, .int x1), (2, .ref aI28), (3, .ref aI48), (4, .int x4), (5, .int x5), (6, .int x6), (7, .int x7)] → W p l e ({ frames := 1, cells := 0, slots := 0, locals := 24 } : Room) s m args below meth c H locs 0 0 (Ev below args s A D (fun (u : IV × IV) => (i28W t aI28 u.1 ++ (i48W t aI48 u.2))) (fun (u : IV × IV) => Q u.1 u.2) 0 0) (F0 m 61 ls [])) (fun vI28 vI48 x0 x1 x4 x5 x6 x7 h H locs ls hw hl => ?_) H locs ls hw hl
  exact kb_L_cut_61 X aI28 aI48 (fun vI28 vI48 x0 x1 x4 x5 x6 x7 H locs ls q hw hl => q H locs ls hw hl) hK222 vI28 vI48 x0 x1 x4 x5 x6 x7 _ _ _ h hw hl
set_option maxHeartbeats 4000000 in
set_option maxRecDepth 100000 in
theorem kb_L_cut_36 {p : Program} {l : Launch} {e : Env} {s : State} {m : MethodId} {below : List Frame} {meth : Method} {c : Code} {args : Array Value} {D : va_G} {t : T3} {A : Nat → Prop} (X : Cx p s m meth c args cL_cut 11 none RL wsL_cut D t A) (aI28 : Nat) (aI48 : Nat) {Q : IV → IV → Prop} {P : IV → IV → Int32 → Int32 → Int32 → Int32 → Int32 → Prop} {K228 : IV → IV → Int32 → Prop} (hP : ∀ (vI28 : IV) (vI48 : IV) (x0 : Int32) (x1 : Int32) (x4 : Int32) (x5 : Int32) (x6 : Int32) (H : Heap) (locs : List Loc) (ls : Array Slot), P vI28 vI48 x0 x1 x4 x5 x6 → Wd D A s.heap (i28W t aI28 vI28 ++ (i48W t aI48 vI48)) H locs → lv_has ls 11 [(0, .int x0), (1, .int x1), (2, .ref aI28), (3, .ref aI48), (4, .int x4), (5, .int x5), (6, .int x6)] → W p l e ({ frames := 1, cells := 0, slots := 0, locals := 24 } : Room) s m args below meth c H locs 0 0 (Ev below args s A D (fun (u : IV × IV) => (i28W t aI28 u.1 ++ (i48W t aI48 u.2))) (fun (u : IV × IV) => Q u.1 u.2) 0 0) (F0 m 36 ls [])) (hK228 : ∀ (vI28 : IV) (vI48 : IV) (x5 : Int32) (H : Heap) (locs : List Loc) (ls : Array Slot), K228 vI28 vI48 x5 → Wd D A s.heap (i28W t aI28 vI28 ++ (i48W t aI48 vI48)) H locs → lv_has ls 11 [(2, .ref aI28), (5, .int x5)] → W p l e ({ frames := 1, cells := 0, slots := 0, locals := 24 } : Room) s m args below meth c H locs 0 0 (Ev below args s A D (fun (u : IV × IV) => (i28W t aI28 u.1 ++ (i48W t aI48 u.2))) (fun (u : IV × IV) => Q u.1 u.2) 0 0) (F0 m 228 ls [])) : ∀ (vI28 : IV) (vI48 : IV) (x0 : Int32) (x1 : Int32) (x4 : Int32) (x5 : Int32) (x6 : Int32) (H : Heap) (locs : List Loc) (ls : Array Slot), bd_L_cut_36 Q P K228 vI28 vI48 x0 x1 x4 x5 x6 → Wd D A s.heap (i28W t aI28 vI28 ++ (i48W t aI48 vI48)) H locs → lv_has ls 11 [(0, .int x0), (1, .int x1), (2, .ref aI28), (3, .ref aI48), (4, .int x4), (5, .int x5), (6, .int x6)] → W p l e ({ frames := 1, cells := 0, slots := 0, locals := 24 } : Room) s m args below meth c H locs 0 0 (Ev below args s A D (fun (u : IV × IV) => (i28W t aI28 u.1 ++ (i48W t aI48 u.2))) (fun (u : IV × IV) => Q u.1 u.2) 0 0) (F0 m 36 ls []) := by
  intro vI28 vI48 x0 x1 x4 x5 x6 H locs ls h hw hl
  have hx := X.1.1
  have hb := X.1.2.1
  refine lv_iload hx hb dL_cut_36 (lv_at hl 6 rfl) ?_
  refine lv_iload hx hb dL_cut_38 (lv_at hl 5 rfl) ?_
  refine lv_icmp_ge (tgt := 228) hx hb dL_cut_40 (by decide) (fun c_45 => ?_) (fun c_45 => ?_)
  · replace h := h.1 c_45
    exact hK228 _ _ _ _ _ _ h hw (lv_sub hl [2, 5] rfl)
  replace h := h.2 c_45
  refine lv_aload_n hx hb dL_cut_43 rfl (lv_at hl 2 rfl) ?_
  refine lv_iconst (v := 4) hx hb dL_cut_44 (by decide) ?_
  refine lv_iload hx hb dL_cut_45 (lv_at hl 6 rfl) ?_
  refine lv_iadd hx hb dL_cut_47 ?_
  refine lv_iconst (v := (-1)) hx hb dL_cut_48 (by decide) ?_
  obtain ⟨hi_12, h⟩ := h
  obtain ⟨o_13, eo_13⟩ : ∃ z : Nat → Int32, z = upd vI28 (Int32.toNatClampNeg (4 + x6)) (-1) := ⟨_, rfl⟩
  replace h := h o_13 eo_13
  refine r_iast (ws' := (i28W t aI28 o_13 ++ (i48W t aI48 vI48))) X hw 0 rfl hi_12 (by subst eo_13; rfl) dL_cut_49 (fun H locs hw => ?_)
  refine lv_aload_n hx hb dL_cut_50 rfl (lv_at hl 2 rfl) ?_
  refine lv_bipush (v := 16) hx hb dL_cut_51 (by decide) ?_
  refine lv_iload hx hb dL_cut_53 (lv_at hl 6 rfl) ?_
  refine lv_iadd hx hb dL_cut_55 ?_
  refine lv_iconst (v := 0) hx hb dL_cut_56 (by decide) ?_
  obtain ⟨hi_14, h⟩ := h
  obtain ⟨o_15, eo_15⟩ : ∃ z : Nat → Int32, z = upd o_13 (Int32.toNatClampNeg (16 + x6)) 0 := ⟨_, rfl⟩
  replace h := h o_15 eo_15
  refine r_iast (ws' := (i28W t aI28 o_15 ++ (i48W t aI48 vI48))) X hw 0 rfl hi_14 (by subst eo_15; rfl) dL_cut_57 (fun H locs hw => ?_)
  refine lv_iconst (v := 0) hx hb dL_cut_58 (by decide) ?_
  refine lv_istore (lv' := [(7, .int 0), (0, .int x0), (1, .int x1), (2, .ref aI28), (3, .ref aI48), (4, .int x4), (5, .int x5), (6, .int x6)]) hx hb dL_cut_59 hl (by decide) rfl (fun ls hl => ?_)
  refine k_L_cut_61 X aI28 aI48 (fun vI28_37 vI48_38 x0_39 x1_40 x4_41 x5_42 x6_43 H locs ls h hw hl => ?_) _ _ _ _ _ _ _ _ _ _ _ h hw (lv_sub hl [1, 2, 3, 4, 5, 6, 7, 0] rfl)
  obtain ⟨x6_44, ex6_44⟩ : ∃ z : Int32, z = x6_43 + 1 := ⟨_, rfl⟩
  replace h := h x6_44 ex6_44
  refine lv_iinc (v := x6_44) (lv' := [(6, .int x6_44), (0, .int x0_39), (1, .int x1_40), (2, .ref aI28), (3, .ref aI48), (4, .int x4_41), (5, .int x5_42)]) hx hb dL_cut_222 hl (k := 6) rfl (by rw [ex6_44]; rfl) (by decide) rfl (fun ls hl => ?_)
  refine lv_goto (tgt := 36) hx hb dL_cut_225 (by decide) ?_
  exact hP _ _ _ _ _ _ _ _ _ _ h hw (lv_sub hl [1, 2, 3, 4, 5, 6, 0] rfl)
set_option maxHeartbeats 4000000 in
set_option maxRecDepth 100000 in
theorem k_L_cut_36 {p : Program} {l : Launch} {e : Env} {s : State} {m : MethodId} {below : List Frame} {meth : Method} {c : Code} {args : Array Value} {D : va_G} {t : T3} {A : Nat → Prop} (X : Cx p s m meth c args cL_cut 11 none RL wsL_cut D t A) (aI28 : Nat) (aI48 : Nat) {Q : IV → IV → Prop} {K228 : IV → IV → Int32 → Prop} (hK228 : ∀ (vI28 : IV) (vI48 : IV) (x5 : Int32) (H : Heap) (locs : List Loc) (ls : Array Slot), K228 vI28 vI48 x5 → Wd D A s.heap (i28W t aI28 vI28 ++ (i48W t aI48 vI48)) H locs → lv_has ls 11 [(2, .ref aI28), (5, .int x5)] → W p l e ({ frames := 1, cells := 0, slots := 0, locals := 24 } : Room) s m args below meth c H locs 0 0 (Ev below args s A D (fun (u : IV × IV) => (i28W t aI28 u.1 ++ (i48W t aI48 u.2))) (fun (u : IV × IV) => Q u.1 u.2) 0 0) (F0 m 228 ls [])) : ∀ (vI28 : IV) (vI48 : IV) (x0 : Int32) (x1 : Int32) (x4 : Int32) (x5 : Int32) (x6 : Int32) (H : Heap) (locs : List Loc) (ls : Array Slot), wp_L_cut_36 Q K228 vI28 vI48 x0 x1 x4 x5 x6 → Wd D A s.heap (i28W t aI28 vI28 ++ (i48W t aI48 vI48)) H locs → lv_has ls 11 [(0, .int x0), (1, .int x1), (2, .ref aI28), (3, .ref aI48), (4, .int x4), (5, .int x5), (6, .int x6)] → W p l e ({ frames := 1, cells := 0, slots := 0, locals := 24 } : Room) s m args below meth c H locs 0 0 (Ev below args s A D (fun (u : IV × IV) => (i28W t aI28 u.1 ++ (i48W t aI48 u.2))) (fun (u : IV × IV) => Q u.1 u.2) 0 0) (F0 m 36 ls []) := by
  intro vI28 vI48 x0 x1 x4 x5 x6 H locs ls h hw hl
  have hx := X.1.1
  have hb := X.1.2.1
  refine h (fun (vI28 : IV) (vI48 : IV) (x0 : Int32) (x1 : Int32) (x4 : Int32) (x5 : Int32) (x6 : Int32) => ∀ (H : Heap) (locs : List Loc) (ls : Array Slot), Wd D A s.heap (i28W t aI28 vI28 ++ (i48W t aI48 vI48)) H locs → lv_has ls 11 [(0, .int x0), (1, .int x1), (2, .ref aI28), (3, .ref aI48), (4, .int x4), (5, .int x5), (6, .int x6)] → W p l e ({ frames := 1, cells := 0, slots := 0, locals := 24 } : Room) s m args below meth c H locs 0 0 (Ev below args s A D (fun (u : IV × IV) => (i28W t aI28 u.1 ++ (i48W t aI48 u.2))) (fun (u : IV × IV) => Q u.1 u.2) 0 0) (F0 m 36 ls [])) (fun vI28 vI48 x0 x1 x4 x5 x6 h H locs ls hw hl => ?_) H locs ls hw hl
  exact kb_L_cut_36 X aI28 aI48 (fun vI28 vI48 x0 x1 x4 x5 x6 H locs ls q hw hl => q H locs ls hw hl) hK228 vI28 vI48 x0 x1 x4 x5 x6 _ _ _ h hw hl
set_option maxHeartbeats 4000000 in
set_option maxRecDepth 100000 in
theorem c_L_cut (l : Launch) (D : va_G) (t : T3) (aI28 : Nat) (aI48 : Nat) (vI28 : IV) (vI48 : IV) (p0 : Int32) (p1 : Int32) (Q : IV → IV → Prop) (h : wp_L_cut vI28 vI48 p0 p1 Q) : Ct l yL_cut wsL_cut 1 24 0 0 [.int p0, .int p1, .ref aI28, .ref aI48] D t (i28W t aI28 vI28 ++ (i48W t aI48 vI48)) (fun sz => Qv D (i28W t aI28 vI28 ++ (i48W t aI48 vI48)) (fun (u : IV × IV) => (i28W t aI28 u.1 ++ (i48W t aI48 u.2))) (fun (u : IV × IV) => Q u.1 u.2) sz) := by
  refine Ct.of (Qf := fun _ A => va_Qv (fun (u : IV × IV) => Q u.1 u.2) (B1 D (fun (u : IV × IV) => (i28W t aI28 u.1 ++ (i48W t aI48 u.2))) A) A) cL_cut 11 none (by decide) rfl (Nat.le_of_ble_eq_true rfl) ?_
  intro p e s m below meth c A ls hAe hin X hw hl
  generalize ([.int p0, .int p1, .ref aI28, .ref aI48] : List Value).toArray = args at X ⊢
  have hl : lv_has ls 11 [(0, .int p0), (1, .int p1), (2, .ref aI28), (3, .ref aI48)] := hl
  have hx := X.1.1
  have hb := X.1.2.1
  refine lv_iload_n hx hb dL_cut_0 rfl (lv_at hl 0 rfl) ?_
  refine lv_istore (lv' := [(4, .int p0), (0, .int p0), (1, .int p1), (2, .ref aI28), (3, .ref aI48)]) hx hb dL_cut_1 hl (by decide) rfl (fun ls hl => ?_)
  refine lv_aload_n hx hb dL_cut_3 rfl (lv_at hl 3 rfl) ?_
  refine lv_iconst (v := 0) hx hb dL_cut_4 (by decide) ?_
  refine r_iald (v := (vI28 0)) X hw 0 rfl (vpl rfl) rfl dL_cut_5 ?_
  refine lv_aload_n hx hb dL_cut_6 rfl (lv_at hl 3 rfl) ?_
  refine lv_iconst (v := 1) hx hb dL_cut_7 (by decide) ?_
  refine r_iald (v := (vI28 1)) X hw 0 rfl (vpl rfl) rfl dL_cut_8 ?_
  refine lv_imul hx hb dL_cut_9 ?_
  refine lv_topi (fun x5_1 ex5_1 => ?_)
  replace h := h x5_1 ex5_1
  refine lv_istore (lv' := [(5, .int x5_1), (4, .int p0), (0, .int p0), (1, .int p1), (2, .ref aI28), (3, .ref aI48)]) hx hb dL_cut_10 hl (by decide) rfl (fun ls hl => ?_)
  refine lv_iconst (v := 0) hx hb dL_cut_12 (by decide) ?_
  refine lv_istore (lv' := [(6, .int 0), (5, .int x5_1), (4, .int p0), (0, .int p0), (1, .int p1), (2, .ref aI28), (3, .ref aI48)]) hx hb dL_cut_13 hl (by decide) rfl (fun ls hl => ?_)
  refine k_L_cut_15 X aI28 aI48 (fun vI28_6 vI48_7 x0_8 x1_9 x4_10 x5_11 H locs ls h hw hl => ?_) _ _ _ _ _ _ _ _ _ _ h hw (lv_sub hl [3, 4, 5, 6, 2, 1, 0] rfl)
  refine lv_iconst (v := 0) hx hb dL_cut_33 (by decide) ?_
  refine lv_istore (lv' := [(6, .int 0), (0, .int x0_8), (1, .int x1_9), (2, .ref aI28), (3, .ref aI48), (4, .int x4_10), (5, .int x5_11)]) hx hb dL_cut_34 hl (by decide) rfl (fun ls hl => ?_)
  refine k_L_cut_36 X aI28 aI48 (fun vI28_46 vI48_47 x5_48 H locs ls h hw hl => ?_) _ _ _ _ _ _ _ _ _ _ h hw (lv_sub hl [1, 2, 3, 4, 5, 6, 0] rfl)
  refine lv_aload_n hx hb dL_cut_228 rfl (lv_at hl 0 rfl) ?_
  refine lv_iconst (v := 3) hx hb dL_cut_229 (by decide) ?_
  refine lv_iload hx hb dL_cut_230 (lv_at hl 1 rfl) ?_
  obtain ⟨o_49, eo_49⟩ : ∃ z : Nat → Int32, z = upd vI28_46 3 x5_48 := ⟨_, rfl⟩
  replace h := h o_49 eo_49
  refine r_iast (ws' := (i28W t aI28 o_49 ++ (i48W t aI48 vI48_47))) X hw 0 rfl (vpl rfl) (by subst eo_49; rfl) dL_cut_232 (fun H locs hw => ?_)
  exact e_v (w1 := (fun (u : IV × IV) => (i28W t aI28 u.1 ++ (i48W t aI48 u.2)))) X (o_49, vI48_47) hw h dL_cut_233
