/-! X6_placingTurnedOver -/
def wp_X6_placingTurnedOver (p0 : Int32) (Q : Int32 → Prop) : Prop := (¬ p0 = (-1) → ∀ x1_1 : Int32, x1_1 = (p0 / 8) → ∀ x2_2 : Int32, x2_2 = (1 - (jrem (p0 / 4) 2)) → ∀ x3_3 : Int32, x3_3 = (jrem (4 - (jrem p0 4)) 4) → Q (((8 * x1_1) + (4 * x2_2)) + x3_3) ) ∧ (p0 = (-1) → Q (-1) )
set_option maxHeartbeats 4000000 in
set_option maxRecDepth 100000 in
theorem c_X6_placingTurnedOver (l : Launch) (D : va_G) (t : T3)  (p0 : Int32) (Q : Int32 → Prop) (h : wp_X6_placingTurnedOver p0 Q) : Ct l yX6_placingTurnedOver wsX6_placingTurnedOver 0 0 0 0 [.int p0] D t ([] : va_W) (fun sz => Qi D ([] : va_W) (fun (u : Unit) => ([] : va_W)) (fun (r : Int32) (u : Unit) => Q r ) sz) := by
  refine Ct.of (Qf := fun _ A => va_Qi (fun (r : Int32) (u : Unit) => Q r ) (B1 D (fun (u : Unit) => ([] : va_W)) A) A) cX6_placingTurnedOver 4 (some .int) (by decide) rfl (Nat.le_of_ble_eq_true rfl) ?_
  intro p e s m below meth c A ls hAe hin X hw hl
  generalize ([.int p0] : List Value).toArray = args at X ⊢
  have hl : lv_has ls 4 [(0, .int p0)] := hl
  have hx := X.1.1
  have hb := X.1.2.1
  refine lv_iload_n hx hb dX6_placingTurnedOver_0 rfl (lv_at hl 0 rfl) ?_
  refine lv_iconst (v := (-1)) hx hb dX6_placingTurnedOver_1 (by decide) ?_
  refine lv_icmp_ne (tgt := 7) hx hb dX6_placingTurnedOver_2 (by decide) (fun c_4 => ?_) (fun c_4 => ?_)
  · replace h := h.1 c_4
    refine lv_iload_n hx hb dX6_placingTurnedOver_7 rfl (lv_at hl 0 rfl) ?_
    refine lv_bipush (v := 8) hx hb dX6_placingTurnedOver_8 (by decide) ?_
    refine lv_idiv hx hb dX6_placingTurnedOver_10 (by decide) ?_
    refine lv_topi (fun x1_1 ex1_1 => ?_)
    replace h := h x1_1 ex1_1
    refine lv_istore_n (lv' := [(1, .int x1_1), (0, .int p0)]) hx hb dX6_placingTurnedOver_11 rfl hl (by decide) rfl (fun ls hl => ?_)
    refine lv_iconst (v := 1) hx hb dX6_placingTurnedOver_12 (by decide) ?_
    refine lv_iload_n hx hb dX6_placingTurnedOver_13 rfl (lv_at hl 1 rfl) ?_
    refine lv_iconst (v := 4) hx hb dX6_placingTurnedOver_14 (by decide) ?_
    refine lv_idiv hx hb dX6_placingTurnedOver_15 (by decide) ?_
    refine lv_iconst (v := 2) hx hb dX6_placingTurnedOver_16 (by decide) ?_
    refine r_irem hx hb dX6_placingTurnedOver_17 (by decide) ?_
    refine lv_isub hx hb dX6_placingTurnedOver_18 ?_
    refine lv_topi (fun x2_2 ex2_2 => ?_)
    replace h := h x2_2 ex2_2
    refine lv_istore_n (lv' := [(2, .int x2_2), (1, .int x1_1), (0, .int p0)]) hx hb dX6_placingTurnedOver_19 rfl hl (by decide) rfl (fun ls hl => ?_)
    refine lv_iconst (v := 4) hx hb dX6_placingTurnedOver_20 (by decide) ?_
    refine lv_iload_n hx hb dX6_placingTurnedOver_21 rfl (lv_at hl 2 rfl) ?_
    refine lv_iconst (v := 4) hx hb dX6_placingTurnedOver_22 (by decide) ?_
    refine r_irem hx hb dX6_placingTurnedOver_23 (by decide) ?_
    refine lv_isub hx hb dX6_placingTurnedOver_24 ?_
    refine lv_iconst (v := 4) hx hb dX6_placingTurnedOver_25 (by decide) ?_
    refine r_irem hx hb dX6_placingTurnedOver_26 (by decide) ?_
    refine lv_topi (fun x3_3 ex3_3 => ?_)
    replace h := h x3_3 ex3_3
    refine lv_istore_n (lv' := [(3, .int x3_3), (2, .int x2_2), (1, .int x1_1), (0, .int p0)]) hx hb dX6_placingTurnedOver_27 rfl hl (by decide) rfl (fun ls hl => ?_)
    refine lv_bipush (v := 8) hx hb dX6_placingTurnedOver_28 (by decide) ?_
    refine lv_iload_n hx hb dX6_placingTurnedOver_30 rfl (lv_at hl 2 rfl) ?_
    refine lv_imul hx hb dX6_placingTurnedOver_31 ?_
    refine lv_iconst (v := 4) hx hb dX6_placingTurnedOver_32 (by decide) ?_
    refine lv_iload_n hx hb dX6_placingTurnedOver_33 rfl (lv_at hl 1 rfl) ?_
    refine lv_imul hx hb dX6_placingTurnedOver_34 ?_
    refine lv_iadd hx hb dX6_placingTurnedOver_35 ?_
    refine lv_iload_n hx hb dX6_placingTurnedOver_36 rfl (lv_at hl 0 rfl) ?_
    refine lv_iadd hx hb dX6_placingTurnedOver_37 ?_
    exact e_i (w1 := (fun (u : Unit) => ([] : va_W))) X () hw h dX6_placingTurnedOver_38
  replace h := h.2 c_4
  refine lv_iconst (v := (-1)) hx hb dX6_placingTurnedOver_5 (by decide) ?_
  exact e_i (w1 := (fun (u : Unit) => ([] : va_W))) X () hw h dX6_placingTurnedOver_6
/-! X6_digit -/
def bd_X6_digit_4 (Q : Int32 → Prop) (P : Int32 → Int32 → Prop) (x2 : Int32) (x3 : Int32) : Prop := (3 ≤ x3 → Q (jrem x2 10) ) ∧ (¬ 3 ≤ x3 → ∀ x2_1 : Int32, x2_1 = (x2 / 10) → ∀ x3_2 : Int32, x3_2 = x3 + 1 → P x2_1 x3_2)
def wp_X6_digit_4 (Q : Int32 → Prop)  (x2 : Int32) (x3 : Int32) : Prop := ∀ P : Int32 → Int32 → Prop, (∀ (x2 : Int32) (x3 : Int32), bd_X6_digit_4 Q P  x2 x3 → P x2 x3) → P x2 x3
set_option maxHeartbeats 4000000 in
set_option maxRecDepth 100000 in
theorem kb_X6_digit_4 {p : Program} {l : Launch} {e : Env} {s : State} {m : MethodId} {below : List Frame} {meth : Method} {c : Code} {args : Array Value} {D : va_G} {t : T3} {A : Nat → Prop} (X : Cx p s m meth c args cX6_digit 4 (some .int) RX6 wsX6_digit D t A)  {Q : Int32 → Prop} {P : Int32 → Int32 → Prop} (hP : ∀ (x2 : Int32) (x3 : Int32) (H : Heap) (locs : List Loc) (ls : Array Slot), P x2 x3 → Wd D A s.heap ([] : va_W) H locs → lv_has ls 4 [(2, .int x2), (3, .int x3)] → W p l e ({ frames := 0, cells := 0, slots := 0, locals := 0 } : Room) s m args below meth c H locs 0 0 (Ei below args s A D (fun (u : Unit) => ([] : va_W)) (fun (r : Int32) (u : Unit) => Q r ) 0 0) (F0 m 4 ls [])) : ∀ (x2 : Int32) (x3 : Int32) (H : Heap) (locs : List Loc) (ls : Array Slot), bd_X6_digit_4 Q P  x2 x3 → Wd D A s.heap ([] : va_W) H locs → lv_has ls 4 [(2, .int x2), (3, .int x3)] → W p l e ({ frames := 0, cells := 0, slots := 0, locals := 0 } : Room) s m args below meth c H locs 0 0 (Ei below args s A D (fun (u : Unit) => ([] : va_W)) (fun (r : Int32) (u : Unit) => Q r ) 0 0) (F0 m 4 ls []) := by
  intro x2 x3 H locs ls h hw hl
  have hx := X.1.1
  have hb := X.1.2.1
  refine lv_iload_n hx hb dX6_digit_4 rfl (lv_at hl 1 rfl) ?_
  refine lv_iconst (v := 3) hx hb dX6_digit_5 (by decide) ?_
  refine lv_icmp_ge (tgt := 20) hx hb dX6_digit_6 (by decide) (fun c_3 => ?_) (fun c_3 => ?_)
  · replace h := h.1 c_3
    refine lv_iload_n hx hb dX6_digit_20 rfl (lv_at hl 0 rfl) ?_
    refine lv_bipush (v := 10) hx hb dX6_digit_21 (by decide) ?_
    refine r_irem hx hb dX6_digit_23 (by decide) ?_
    exact e_i (w1 := (fun (u : Unit) => ([] : va_W))) X () hw h dX6_digit_24
  replace h := h.2 c_3
  refine lv_iload_n hx hb dX6_digit_9 rfl (lv_at hl 0 rfl) ?_
  refine lv_bipush (v := 10) hx hb dX6_digit_10 (by decide) ?_
  refine lv_idiv hx hb dX6_digit_12 (by decide) ?_
  refine lv_topi (fun x2_1 ex2_1 => ?_)
  replace h := h x2_1 ex2_1
  refine lv_istore_n (lv' := [(2, .int x2_1), (3, .int x3)]) hx hb dX6_digit_13 rfl hl (by decide) rfl (fun ls hl => ?_)
  obtain ⟨x3_2, ex3_2⟩ : ∃ z : Int32, z = x3 + 1 := ⟨_, rfl⟩
  replace h := h x3_2 ex3_2
  refine lv_iinc (v := x3_2) (lv' := [(3, .int x3_2), (2, .int x2_1)]) hx hb dX6_digit_14 hl (k := 1) rfl (by rw [ex3_2]; rfl) (by decide) rfl (fun ls hl => ?_)
  refine lv_goto (tgt := 4) hx hb dX6_digit_17 (by decide) ?_
  exact hP _ _ _ _ _ h hw (lv_sub hl [1, 0] rfl)
set_option maxHeartbeats 4000000 in
set_option maxRecDepth 100000 in
theorem k_X6_digit_4 {p : Program} {l : Launch} {e : Env} {s : State} {m : MethodId} {below : List Frame} {meth : Method} {c : Code} {args : Array Value} {D : va_G} {t : T3} {A : Nat → Prop} (X : Cx p s m meth c args cX6_digit 4 (some .int) RX6 wsX6_digit D t A)  {Q : Int32 → Prop}   : ∀ (x2 : Int32) (x3 : Int32) (H : Heap) (locs : List Loc) (ls : Array Slot), wp_X6_digit_4 Q  x2 x3 → Wd D A s.heap ([] : va_W) H locs → lv_has ls 4 [(2, .int x2), (3, .int x3)] → W p l e ({ frames := 0, cells := 0, slots := 0, locals := 0 } : Room) s m args below meth c H locs 0 0 (Ei below args s A D (fun (u : Unit) => ([] : va_W)) (fun (r : Int32) (u : Unit) => Q r ) 0 0) (F0 m 4 ls []) := by
  intro x2 x3 H locs ls h hw hl
  have hx := X.1.1
  have hb := X.1.2.1
  refine h (fun (x2 : Int32) (x3 : Int32) => ∀ (H : Heap) (locs : List Loc) (ls : Array Slot), Wd D A s.heap ([] : va_W) H locs → lv_has ls 4 [(2, .int x2), (3, .int x3)] → W p l e ({ frames := 0, cells := 0, slots := 0, locals := 0 } : Room) s m args below meth c H locs 0 0 (Ei below args s A D (fun (u : Unit) => ([] : va_W)) (fun (r : Int32) (u : Unit) => Q r ) 0 0) (F0 m 4 ls [])) (fun x2 x3 h H locs ls hw hl => ?_) H locs ls hw hl
  exact kb_X6_digit_4 X  (fun x2 x3 H locs ls q hw hl => q H locs ls hw hl)  x2 x3 _ _ _ h hw hl
def wp_X6_digit (p0 : Int32) (p1 : Int32) (Q : Int32 → Prop) : Prop := wp_X6_digit_4 Q  p0 p1
set_option maxHeartbeats 4000000 in
set_option maxRecDepth 100000 in
theorem c_X6_digit (l : Launch) (D : va_G) (t : T3)  (p0 : Int32) (p1 : Int32) (Q : Int32 → Prop) (h : wp_X6_digit p0 p1 Q) : Ct l yX6_digit wsX6_digit 0 0 0 0 [.int p0, .int p1] D t ([] : va_W) (fun sz => Qi D ([] : va_W) (fun (u : Unit) => ([] : va_W)) (fun (r : Int32) (u : Unit) => Q r ) sz) := by
  refine Ct.of (Qf := fun _ A => va_Qi (fun (r : Int32) (u : Unit) => Q r ) (B1 D (fun (u : Unit) => ([] : va_W)) A) A) cX6_digit 4 (some .int) (by decide) rfl (Nat.le_of_ble_eq_true rfl) ?_
  intro p e s m below meth c A ls hAe hin X hw hl
  generalize ([.int p0, .int p1] : List Value).toArray = args at X ⊢
  have hl : lv_has ls 4 [(0, .int p0), (1, .int p1)] := hl
  have hx := X.1.1
  have hb := X.1.2.1
  refine lv_iload_n hx hb dX6_digit_0 rfl (lv_at hl 0 rfl) ?_
  refine lv_istore_n (lv' := [(2, .int p0), (0, .int p0), (1, .int p1)]) hx hb dX6_digit_1 rfl hl (by decide) rfl (fun ls hl => ?_)
  refine lv_iload_n hx hb dX6_digit_2 rfl (lv_at hl 2 rfl) ?_
  refine lv_istore_n (lv' := [(3, .int p1), (2, .int p0), (0, .int p0), (1, .int p1)]) hx hb dX6_digit_3 rfl hl (by decide) rfl (fun ls hl => ?_)
  refine k_X6_digit_4 X   _ _ _ _ _ h hw (lv_sub hl [1, 0] rfl)
/-! X6_seenFromBehind -/
def wp_X6_seenFromBehind (p0 : Int32) (Q : Int32 → Prop) : Prop := Q (jrem (4 - p0) 4) 
set_option maxHeartbeats 4000000 in
set_option maxRecDepth 100000 in
theorem c_X6_seenFromBehind (l : Launch) (D : va_G) (t : T3)  (p0 : Int32) (Q : Int32 → Prop) (h : wp_X6_seenFromBehind p0 Q) : Ct l yX6_seenFromBehind wsX6_seenFromBehind 0 0 0 0 [.int p0] D t ([] : va_W) (fun sz => Qi D ([] : va_W) (fun (u : Unit) => ([] : va_W)) (fun (r : Int32) (u : Unit) => Q r ) sz) := by
  refine Ct.of (Qf := fun _ A => va_Qi (fun (r : Int32) (u : Unit) => Q r ) (B1 D (fun (u : Unit) => ([] : va_W)) A) A) cX6_seenFromBehind 1 (some .int) (by decide) rfl (Nat.le_of_ble_eq_true rfl) ?_
  intro p e s m below meth c A ls hAe hin X hw hl
  generalize ([.int p0] : List Value).toArray = args at X ⊢
  have hl : lv_has ls 1 [(0, .int p0)] := hl
  have hx := X.1.1
  have hb := X.1.2.1
  refine lv_iconst (v := 4) hx hb dX6_seenFromBehind_0 (by decide) ?_
  refine lv_iload_n hx hb dX6_seenFromBehind_1 rfl (lv_at hl 0 rfl) ?_
  refine lv_isub hx hb dX6_seenFromBehind_2 ?_
  refine lv_iconst (v := 4) hx hb dX6_seenFromBehind_3 (by decide) ?_
  refine r_irem hx hb dX6_seenFromBehind_4 (by decide) ?_
  exact e_i (w1 := (fun (u : Unit) => ([] : va_W))) X () hw h dX6_seenFromBehind_5
/-! X6_lookOfFaces -/
def bd_X6_lookOfFaces_4 (Q : Int32 → Prop) (P : Int32 → Int32 → Int32 → Int32 → Prop) (x0 : Int32) (x1 : Int32) (x2 : Int32) (x3 : Int32) : Prop := (4 ≤ x3 → Q x2 ) ∧ (¬ 4 ≤ x3 → wp_X6_digit  x0 x3 (fun (r_1 : Int32) => wp_X6_seenFromBehind  x3 (fun (r_2 : Int32) => wp_X6_digit  x1 r_2 (fun (r_3 : Int32) => ∀ x2_4 : Int32, x2_4 = (x2 ||| (jshl (r_1 ||| (jshl r_3 16)) (4 * x3))) → ∀ x3_5 : Int32, x3_5 = x3 + 1 → P x0 x1 x2_4 x3_5))))
def wp_X6_lookOfFaces_4 (Q : Int32 → Prop)  (x0 : Int32) (x1 : Int32) (x2 : Int32) (x3 : Int32) : Prop := ∀ P : Int32 → Int32 → Int32 → Int32 → Prop, (∀ (x0 : Int32) (x1 : Int32) (x2 : Int32) (x3 : Int32), bd_X6_lookOfFaces_4 Q P  x0 x1 x2 x3 → P x0 x1 x2 x3) → P x0 x1 x2 x3
set_option maxHeartbeats 4000000 in
set_option maxRecDepth 100000 in
theorem kb_X6_lookOfFaces_4 {p : Program} {l : Launch} {e : Env} {s : State} {m : MethodId} {below : List Frame} {meth : Method} {c : Code} {args : Array Value} {D : va_G} {t : T3} {A : Nat → Prop} (X : Cx p s m meth c args cX6_lookOfFaces 6 (some .int) RX6 wsX6_lookOfFaces D t A)  {Q : Int32 → Prop} {P : Int32 → Int32 → Int32 → Int32 → Prop} (hP : ∀ (x0 : Int32) (x1 : Int32) (x2 : Int32) (x3 : Int32) (H : Heap) (locs : List Loc) (ls : Array Slot), P x0 x1 x2 x3 → Wd D A s.heap ([] : va_W) H locs → lv_has ls 6 [(0, .int x0), (1, .int x1), (2, .int x2), (3, .int x3)] → W p l e ({ frames := 1, cells := 0, slots := 0, locals := 23 } : Room) s m args below meth c H locs 0 0 (Ei below args s A D (fun (u : Unit) => ([] : va_W)) (fun (r : Int32) (u : Unit) => Q r ) 0 0) (F0 m 4 ls [])) : ∀ (x0 : Int32) (x1 : Int32) (x2 : Int32) (x3 : Int32) (H : Heap) (locs : List Loc) (ls : Array Slot), bd_X6_lookOfFaces_4 Q P  x0 x1 x2 x3 → Wd D A s.heap ([] : va_W) H locs → lv_has ls 6 [(0, .int x0), (1, .int x1), (2, .int x2), (3, .int x3)] → W p l e ({ frames := 1, cells := 0, slots := 0, locals := 23 } : Room) s m args below meth c H locs 0 0 (Ei below args s A D (fun (u : Unit) => ([] : va_W)) (fun (r : Int32) (u : Unit) => Q r ) 0 0) (F0 m 4 ls []) := by
  intro x0 x1 x2 x3 H locs ls h hw hl
  have hx := X.1.1
  have hb := X.1.2.1
  refine lv_iload_n hx hb dX6_lookOfFaces_4 rfl (lv_at hl 3 rfl) ?_
  refine lv_iconst (v := 4) hx hb dX6_lookOfFaces_5 (by decide) ?_
  refine lv_icmp_ge (tgt := 47) hx hb dX6_lookOfFaces_6 (by decide) (fun c_6 => ?_) (fun c_6 => ?_)
  · replace h := h.1 c_6
    refine lv_iload_n hx hb dX6_lookOfFaces_47 rfl (lv_at hl 2 rfl) ?_
    exact e_i (w1 := (fun (u : Unit) => ([] : va_W))) X () hw h dX6_lookOfFaces_48
  replace h := h.2 c_6
  refine lv_iload_n hx hb dX6_lookOfFaces_9 rfl (lv_at hl 0 rfl) ?_
  refine lv_iload_n hx hb dX6_lookOfFaces_10 rfl (lv_at hl 3 rfl) ?_
  refine r_ci X hw pm_n (wn := fun (u : Unit) => ([] : va_W)) (fun u => (pm_n).symm) (r_runS X hw (c_X6_digit l D t x0 x3 _ h) pm_n (va_cwS 2 X.1.2.2.2.2 gX6_lookOfFaces_X6_digit rfl rfl rfl (by decide +kernel) ⟨Nat.le_of_ble_eq_true rfl, Nat.le_of_ble_eq_true rfl⟩) rfl hl rfl (Nat.le_of_ble_eq_true rfl) dX6_lookOfFaces_11 ⟨Nat.le_of_ble_eq_true rfl, Nat.le_of_ble_eq_true rfl⟩) (fun r_1 u H locs h hw => ?_)
  refine lv_istore (lv' := [(4, .int r_1), (0, .int x0), (1, .int x1), (2, .int x2), (3, .int x3)]) hx hb dX6_lookOfFaces_14 hl (by decide) rfl (fun ls hl => ?_)
  refine lv_iload_n hx hb dX6_lookOfFaces_16 rfl (lv_at hl 2 rfl) ?_
  refine lv_iload_n hx hb dX6_lookOfFaces_17 rfl (lv_at hl 4 rfl) ?_
  refine r_ci X hw pm_n (wn := fun (u : Unit) => ([] : va_W)) (fun u => (pm_n).symm) (r_runS X hw (c_X6_seenFromBehind l D t x3 _ h) pm_n (va_cwS 1 X.1.2.2.2.2 gX6_lookOfFaces_X6_seenFromBehind rfl rfl rfl (by decide +kernel) ⟨Nat.le_of_ble_eq_true rfl, Nat.le_of_ble_eq_true rfl⟩) rfl hl rfl (Nat.le_of_ble_eq_true rfl) dX6_lookOfFaces_18 ⟨Nat.le_of_ble_eq_true rfl, Nat.le_of_ble_eq_true rfl⟩) (fun r_2 u H locs h hw => ?_)
  refine r_ci X hw pm_n (wn := fun (u : Unit) => ([] : va_W)) (fun u => (pm_n).symm) (r_runS X hw (c_X6_digit l D t x1 r_2 _ h) pm_n (va_cwS 2 X.1.2.2.2.2 gX6_lookOfFaces_X6_digit rfl rfl rfl (by decide +kernel) ⟨Nat.le_of_ble_eq_true rfl, Nat.le_of_ble_eq_true rfl⟩) rfl hl rfl (Nat.le_of_ble_eq_true rfl) dX6_lookOfFaces_21 ⟨Nat.le_of_ble_eq_true rfl, Nat.le_of_ble_eq_true rfl⟩) (fun r_3 u H locs h hw => ?_)
  refine lv_istore (lv' := [(5, .int r_3), (4, .int r_1), (0, .int x0), (1, .int x1), (2, .int x2), (3, .int x3)]) hx hb dX6_lookOfFaces_24 hl (by decide) rfl (fun ls hl => ?_)
  refine lv_iload_n hx hb dX6_lookOfFaces_26 rfl (lv_at hl 4 rfl) ?_
  refine lv_iload hx hb dX6_lookOfFaces_27 (lv_at hl 1 rfl) ?_
  refine lv_iload hx hb dX6_lookOfFaces_29 (lv_at hl 0 rfl) ?_
  refine lv_bipush (v := 16) hx hb dX6_lookOfFaces_31 (by decide) ?_
  refine r_ishl hx hb dX6_lookOfFaces_33 ?_
  refine lv_ior hx hb dX6_lookOfFaces_34 ?_
  refine lv_iconst (v := 4) hx hb dX6_lookOfFaces_35 (by decide) ?_
  refine lv_iload_n hx hb dX6_lookOfFaces_36 rfl (lv_at hl 5 rfl) ?_
  refine lv_imul hx hb dX6_lookOfFaces_37 ?_
  refine r_ishl hx hb dX6_lookOfFaces_38 ?_
  refine lv_ior hx hb dX6_lookOfFaces_39 ?_
  refine lv_topi (fun x2_4 ex2_4 => ?_)
  replace h := h x2_4 ex2_4
  refine lv_istore_n (lv' := [(2, .int x2_4), (5, .int r_3), (4, .int r_1), (0, .int x0), (1, .int x1), (3, .int x3)]) hx hb dX6_lookOfFaces_40 rfl hl (by decide) rfl (fun ls hl => ?_)
  obtain ⟨x3_5, ex3_5⟩ : ∃ z : Int32, z = x3 + 1 := ⟨_, rfl⟩
  replace h := h x3_5 ex3_5
  refine lv_iinc (v := x3_5) (lv' := [(3, .int x3_5), (2, .int x2_4), (5, .int r_3), (4, .int r_1), (0, .int x0), (1, .int x1)]) hx hb dX6_lookOfFaces_41 hl (k := 5) rfl (by rw [ex3_5]; rfl) (by decide) rfl (fun ls hl => ?_)
  refine lv_goto (tgt := 4) hx hb dX6_lookOfFaces_44 (by decide) ?_
  exact hP _ _ _ _ _ _ _ h hw (lv_sub hl [4, 5, 1, 0] rfl)
set_option maxHeartbeats 4000000 in
set_option maxRecDepth 100000 in
theorem k_X6_lookOfFaces_4 {p : Program} {l : Launch} {e : Env} {s : State} {m : MethodId} {below : List Frame} {meth : Method} {c : Code} {args : Array Value} {D : va_G} {t : T3} {A : Nat → Prop} (X : Cx p s m meth c args cX6_lookOfFaces 6 (some .int) RX6 wsX6_lookOfFaces D t A)  {Q : Int32 → Prop}   : ∀ (x0 : Int32) (x1 : Int32) (x2 : Int32) (x3 : Int32) (H : Heap) (locs : List Loc) (ls : Array Slot), wp_X6_lookOfFaces_4 Q  x0 x1 x2 x3 → Wd D A s.heap ([] : va_W) H locs → lv_has ls 6 [(0, .int x0), (1, .int x1), (2, .int x2), (3, .int x3)] → W p l e ({ frames := 1, cells := 0, slots := 0, locals := 23 } : Room) s m args below meth c H locs 0 0 (Ei below args s A D (fun (u : Unit) => ([] : va_W)) (fun (r : Int32) (u : Unit) => Q r ) 0 0) (F0 m 4 ls []) := by
  intro x0 x1 x2 x3 H locs ls h hw hl
  have hx := X.1.1
  have hb := X.1.2.1
  refine h (fun (x0 : Int32) (x1 : Int32) (x2 : Int32) (x3 : Int32) => ∀ (H : Heap) (locs : List Loc) (ls : Array Slot), Wd D A s.heap ([] : va_W) H locs → lv_has ls 6 [(0, .int x0), (1, .int x1), (2, .int x2), (3, .int x3)] → W p l e ({ frames := 1, cells := 0, slots := 0, locals := 23 } : Room) s m args below meth c H locs 0 0 (Ei below args s A D (fun (u : Unit) => ([] : va_W)) (fun (r : Int32) (u : Unit) => Q r ) 0 0) (F0 m 4 ls [])) (fun x0 x1 x2 x3 h H locs ls hw hl => ?_) H locs ls hw hl
  exact kb_X6_lookOfFaces_4 X  (fun x0 x1 x2 x3 H locs ls q hw hl => q H locs ls hw hl)  x0 x1 x2 x3 _ _ _ h hw hl
def wp_X6_lookOfFaces (p0 : Int32) (p1 : Int32) (Q : Int32 → Prop) : Prop := wp_X6_lookOfFaces_4 Q  p0 p1 0 0
set_option maxHeartbeats 4000000 in
set_option maxRecDepth 100000 in
theorem c_X6_lookOfFaces (l : Launch) (D : va_G) (t : T3)  (p0 : Int32) (p1 : Int32) (Q : Int32 → Prop) (h : wp_X6_lookOfFaces p0 p1 Q) : Ct l yX6_lookOfFaces wsX6_lookOfFaces 1 23 0 0 [.int p0, .int p1] D t ([] : va_W) (fun sz => Qi D ([] : va_W) (fun (u : Unit) => ([] : va_W)) (fun (r : Int32) (u : Unit) => Q r ) sz) := by
  refine Ct.of (Qf := fun _ A => va_Qi (fun (r : Int32) (u : Unit) => Q r ) (B1 D (fun (u : Unit) => ([] : va_W)) A) A) cX6_lookOfFaces 6 (some .int) (by decide) rfl (Nat.le_of_ble_eq_true rfl) ?_
  intro p e s m below meth c A ls hAe hin X hw hl
  generalize ([.int p0, .int p1] : List Value).toArray = args at X ⊢
  have hl : lv_has ls 6 [(0, .int p0), (1, .int p1)] := hl
  have hx := X.1.1
  have hb := X.1.2.1
  refine lv_iconst (v := 0) hx hb dX6_lookOfFaces_0 (by decide) ?_
  refine lv_istore_n (lv' := [(2, .int 0), (0, .int p0), (1, .int p1)]) hx hb dX6_lookOfFaces_1 rfl hl (by decide) rfl (fun ls hl => ?_)
  refine lv_iconst (v := 0) hx hb dX6_lookOfFaces_2 (by decide) ?_
  refine lv_istore_n (lv' := [(3, .int 0), (2, .int 0), (0, .int p0), (1, .int p1)]) hx hb dX6_lookOfFaces_3 rfl hl (by decide) rfl (fun ls hl => ?_)
  refine k_X6_lookOfFaces_4 X   _ _ _ _ _ _ _ h hw (lv_sub hl [2, 3, 1, 0] rfl)
/-! X6_colorsAt -/
theorem k_X6_colorsAt_321 : Cond.constant RX6 321 (983055) ∈ wsX6_colorsAt := List.mem_of_getElem? (i := 1) rfl
def wp_X6_colorsAt (p0 : Int32) (p1 : Int32) (Q : Int32 → Prop) : Prop := Q ((ushr p0 (4 * p1)) &&& 983055) 
set_option maxHeartbeats 4000000 in
set_option maxRecDepth 100000 in
theorem c_X6_colorsAt (l : Launch) (D : va_G) (t : T3)  (p0 : Int32) (p1 : Int32) (Q : Int32 → Prop) (h : wp_X6_colorsAt p0 p1 Q) : Ct l yX6_colorsAt wsX6_colorsAt 0 0 0 0 [.int p0, .int p1] D t ([] : va_W) (fun sz => Qi D ([] : va_W) (fun (u : Unit) => ([] : va_W)) (fun (r : Int32) (u : Unit) => Q r ) sz) := by
  refine Ct.of (Qf := fun _ A => va_Qi (fun (r : Int32) (u : Unit) => Q r ) (B1 D (fun (u : Unit) => ([] : va_W)) A) A) cX6_colorsAt 2 (some .int) (by decide) rfl (Nat.le_of_ble_eq_true rfl) ?_
  intro p e s m below meth c A ls hAe hin X hw hl
  generalize ([.int p0, .int p1] : List Value).toArray = args at X ⊢
  have hl : lv_has ls 2 [(0, .int p0), (1, .int p1)] := hl
  have hx := X.1.1
  have hb := X.1.2.1
  refine lv_iload_n hx hb dX6_colorsAt_0 rfl (lv_at hl 0 rfl) ?_
  refine lv_iconst (v := 4) hx hb dX6_colorsAt_1 (by decide) ?_
  refine lv_iload_n hx hb dX6_colorsAt_2 rfl (lv_at hl 1 rfl) ?_
  refine lv_imul hx hb dX6_colorsAt_3 ?_
  refine r_iushr hx hb dX6_colorsAt_4 ?_
  refine lv_ldcw (v := 983055) hx hb X.1.2.2.2.1 (X.1.2.2.2.2 _ k_X6_colorsAt_321) dX6_colorsAt_5 ?_
  refine lv_iand hx hb dX6_colorsAt_8 ?_
  exact e_i (w1 := (fun (u : Unit) => ([] : va_W))) X () hw h dX6_colorsAt_9
/-! X6_turnedOver -/
def bd_X6_turnedOver_4 (Q : Int32 → Prop) (P : Int32 → Int32 → Int32 → Prop) (x0 : Int32) (x1 : Int32) (x2 : Int32) : Prop := (4 ≤ x2 → Q x1 ) ∧ (¬ 4 ≤ x2 → wp_X6_colorsAt  x0 x2 (fun (r_1 : Int32) => ∀ x4_2 : Int32, x4_2 = ((ushr r_1 16) ||| (jshl (r_1 &&& 15) 16)) → wp_X6_seenFromBehind  x2 (fun (r_3 : Int32) => ∀ x1_4 : Int32, x1_4 = (x1 ||| (jshl x4_2 (4 * r_3))) → ∀ x2_5 : Int32, x2_5 = x2 + 1 → P x0 x1_4 x2_5)))
def wp_X6_turnedOver_4 (Q : Int32 → Prop)  (x0 : Int32) (x1 : Int32) (x2 : Int32) : Prop := ∀ P : Int32 → Int32 → Int32 → Prop, (∀ (x0 : Int32) (x1 : Int32) (x2 : Int32), bd_X6_turnedOver_4 Q P  x0 x1 x2 → P x0 x1 x2) → P x0 x1 x2
set_option maxHeartbeats 4000000 in
set_option maxRecDepth 100000 in
theorem kb_X6_turnedOver_4 {p : Program} {l : Launch} {e : Env} {s : State} {m : MethodId} {below : List Frame} {meth : Method} {c : Code} {args : Array Value} {D : va_G} {t : T3} {A : Nat → Prop} (X : Cx p s m meth c args cX6_turnedOver 5 (some .int) RX6 wsX6_turnedOver D t A)  {Q : Int32 → Prop} {P : Int32 → Int32 → Int32 → Prop} (hP : ∀ (x0 : Int32) (x1 : Int32) (x2 : Int32) (H : Heap) (locs : List Loc) (ls : Array Slot), P x0 x1 x2 → Wd D A s.heap ([] : va_W) H locs → lv_has ls 5 [(0, .int x0), (1, .int x1), (2, .int x2)] → W p l e ({ frames := 1, cells := 0, slots := 0, locals := 21 } : Room) s m args below meth c H locs 0 0 (Ei below args s A D (fun (u : Unit) => ([] : va_W)) (fun (r : Int32) (u : Unit) => Q r ) 0 0) (F0 m 4 ls [])) : ∀ (x0 : Int32) (x1 : Int32) (x2 : Int32) (H : Heap) (locs : List Loc) (ls : Array Slot), bd_X6_turnedOver_4 Q P  x0 x1 x2 → Wd D A s.heap ([] : va_W) H locs → lv_has ls 5 [(0, .int x0), (1, .int x1), (2, .int x2)] → W p l e ({ frames := 1, cells := 0, slots := 0, locals := 21 } : Room) s m args below meth c H locs 0 0 (Ei below args s A D (fun (u : Unit) => ([] : va_W)) (fun (r : Int32) (u : Unit) => Q r ) 0 0) (F0 m 4 ls []) := by
  intro x0 x1 x2 H locs ls h hw hl
  have hx := X.1.1
  have hb := X.1.2.1
  refine lv_iload_n hx hb dX6_turnedOver_4 rfl (lv_at hl 2 rfl) ?_
  refine lv_iconst (v := 4) hx hb dX6_turnedOver_5 (by decide) ?_
  refine lv_icmp_ge (tgt := 47) hx hb dX6_turnedOver_6 (by decide) (fun c_6 => ?_) (fun c_6 => ?_)
  · replace h := h.1 c_6
    refine lv_iload_n hx hb dX6_turnedOver_47 rfl (lv_at hl 1 rfl) ?_
    exact e_i (w1 := (fun (u : Unit) => ([] : va_W))) X () hw h dX6_turnedOver_48
  replace h := h.2 c_6
  refine lv_iload_n hx hb dX6_turnedOver_9 rfl (lv_at hl 0 rfl) ?_
  refine lv_iload_n hx hb dX6_turnedOver_10 rfl (lv_at hl 2 rfl) ?_
  refine r_ci X hw pm_n (wn := fun (u : Unit) => ([] : va_W)) (fun u => (pm_n).symm) (r_runS X hw (c_X6_colorsAt l D t x0 x2 _ h) pm_n (va_cwS 2 X.1.2.2.2.2 gX6_turnedOver_X6_colorsAt rfl rfl rfl (by decide +kernel) ⟨Nat.le_of_ble_eq_true rfl, Nat.le_of_ble_eq_true rfl⟩) rfl hl rfl (Nat.le_of_ble_eq_true rfl) dX6_turnedOver_11 ⟨Nat.le_of_ble_eq_true rfl, Nat.le_of_ble_eq_true rfl⟩) (fun r_1 u H locs h hw => ?_)
  refine lv_istore_n (lv' := [(3, .int r_1), (0, .int x0), (1, .int x1), (2, .int x2)]) hx hb dX6_turnedOver_14 rfl hl (by decide) rfl (fun ls hl => ?_)
  refine lv_iload_n hx hb dX6_turnedOver_15 rfl (lv_at hl 0 rfl) ?_
  refine lv_bipush (v := 16) hx hb dX6_turnedOver_16 (by decide) ?_
  refine r_iushr hx hb dX6_turnedOver_18 ?_
  refine lv_iload_n hx hb dX6_turnedOver_19 rfl (lv_at hl 0 rfl) ?_
  refine lv_bipush (v := 15) hx hb dX6_turnedOver_20 (by decide) ?_
  refine lv_iand hx hb dX6_turnedOver_22 ?_
  refine lv_bipush (v := 16) hx hb dX6_turnedOver_23 (by decide) ?_
  refine r_ishl hx hb dX6_turnedOver_25 ?_
  refine lv_ior hx hb dX6_turnedOver_26 ?_
  refine lv_topi (fun x4_2 ex4_2 => ?_)
  replace h := h x4_2 ex4_2
  refine lv_istore (lv' := [(4, .int x4_2), (3, .int r_1), (0, .int x0), (1, .int x1), (2, .int x2)]) hx hb dX6_turnedOver_27 hl (by decide) rfl (fun ls hl => ?_)
  refine lv_iload_n hx hb dX6_turnedOver_29 rfl (lv_at hl 3 rfl) ?_
  refine lv_iload hx hb dX6_turnedOver_30 (lv_at hl 0 rfl) ?_
  refine lv_iconst (v := 4) hx hb dX6_turnedOver_32 (by decide) ?_
  refine lv_iload_n hx hb dX6_turnedOver_33 rfl (lv_at hl 4 rfl) ?_
  refine r_ci X hw pm_n (wn := fun (u : Unit) => ([] : va_W)) (fun u => (pm_n).symm) (r_runS X hw (c_X6_seenFromBehind l D t x2 _ h) pm_n (va_cwS 1 X.1.2.2.2.2 gX6_turnedOver_X6_seenFromBehind rfl rfl rfl (by decide +kernel) ⟨Nat.le_of_ble_eq_true rfl, Nat.le_of_ble_eq_true rfl⟩) rfl hl rfl (Nat.le_of_ble_eq_true rfl) dX6_turnedOver_34 ⟨Nat.le_of_ble_eq_true rfl, Nat.le_of_ble_eq_true rfl⟩) (fun r_3 u H locs h hw => ?_)
  refine lv_imul hx hb dX6_turnedOver_37 ?_
  refine r_ishl hx hb dX6_turnedOver_38 ?_
  refine lv_ior hx hb dX6_turnedOver_39 ?_
  refine lv_topi (fun x1_4 ex1_4 => ?_)
  replace h := h x1_4 ex1_4
  refine lv_istore_n (lv' := [(1, .int x1_4), (4, .int x4_2), (3, .int r_1), (0, .int x0), (2, .int x2)]) hx hb dX6_turnedOver_40 rfl hl (by decide) rfl (fun ls hl => ?_)
  obtain ⟨x2_5, ex2_5⟩ : ∃ z : Int32, z = x2 + 1 := ⟨_, rfl⟩
  replace h := h x2_5 ex2_5
  refine lv_iinc (v := x2_5) (lv' := [(2, .int x2_5), (1, .int x1_4), (4, .int x4_2), (3, .int r_1), (0, .int x0)]) hx hb dX6_turnedOver_41 hl (k := 4) rfl (by rw [ex2_5]; rfl) (by decide) rfl (fun ls hl => ?_)
  refine lv_goto (tgt := 4) hx hb dX6_turnedOver_44 (by decide) ?_
  exact hP _ _ _ _ _ _ h hw (lv_sub hl [4, 1, 0] rfl)
set_option maxHeartbeats 4000000 in
set_option maxRecDepth 100000 in
theorem k_X6_turnedOver_4 {p : Program} {l : Launch} {e : Env} {s : State} {m : MethodId} {below : List Frame} {meth : Method} {c : Code} {args : Array Value} {D : va_G} {t : T3} {A : Nat → Prop} (X : Cx p s m meth c args cX6_turnedOver 5 (some .int) RX6 wsX6_turnedOver D t A)  {Q : Int32 → Prop}   : ∀ (x0 : Int32) (x1 : Int32) (x2 : Int32) (H : Heap) (locs : List Loc) (ls : Array Slot), wp_X6_turnedOver_4 Q  x0 x1 x2 → Wd D A s.heap ([] : va_W) H locs → lv_has ls 5 [(0, .int x0), (1, .int x1), (2, .int x2)] → W p l e ({ frames := 1, cells := 0, slots := 0, locals := 21 } : Room) s m args below meth c H locs 0 0 (Ei below args s A D (fun (u : Unit) => ([] : va_W)) (fun (r : Int32) (u : Unit) => Q r ) 0 0) (F0 m 4 ls []) := by
  intro x0 x1 x2 H locs ls h hw hl
  have hx := X.1.1
  have hb := X.1.2.1
  refine h (fun (x0 : Int32) (x1 : Int32) (x2 : Int32) => ∀ (H : Heap) (locs : List Loc) (ls : Array Slot), Wd D A s.heap ([] : va_W) H locs → lv_has ls 5 [(0, .int x0), (1, .int x1), (2, .int x2)] → W p l e ({ frames := 1, cells := 0, slots := 0, locals := 21 } : Room) s m args below meth c H locs 0 0 (Ei below args s A D (fun (u : Unit) => ([] : va_W)) (fun (r : Int32) (u : Unit) => Q r ) 0 0) (F0 m 4 ls [])) (fun x0 x1 x2 h H locs ls hw hl => ?_) H locs ls hw hl
  exact kb_X6_turnedOver_4 X  (fun x0 x1 x2 H locs ls q hw hl => q H locs ls hw hl)  x0 x1 x2 _ _ _ h hw hl
def wp_X6_turnedOver (p0 : Int32) (Q : Int32 → Prop) : Prop := wp_X6_turnedOver_4 Q  p0 0 0
set_option maxHeartbeats 4000000 in
set_option maxRecDepth 100000 in
theorem c_X6_turnedOver (l : Launch) (D : va_G) (t : T3)  (p0 : Int32) (Q : Int32 → Prop) (h : wp_X6_turnedOver p0 Q) : Ct l yX6_turnedOver wsX6_turnedOver 1 21 0 0 [.int p0] D t ([] : va_W) (fun sz => Qi D ([] : va_W) (fun (u : Unit) => ([] : va_W)) (fun (r : Int32) (u : Unit) => Q r ) sz) := by
  refine Ct.of (Qf := fun _ A => va_Qi (fun (r : Int32) (u : Unit) => Q r ) (B1 D (fun (u : Unit) => ([] : va_W)) A) A) cX6_turnedOver 5 (some .int) (by decide) rfl (Nat.le_of_ble_eq_true rfl) ?_
  intro p e s m below meth c A ls hAe hin X hw hl
  generalize ([.int p0] : List Value).toArray = args at X ⊢
  have hl : lv_has ls 5 [(0, .int p0)] := hl
  have hx := X.1.1
  have hb := X.1.2.1
  refine lv_iconst (v := 0) hx hb dX6_turnedOver_0 (by decide) ?_
  refine lv_istore_n (lv' := [(1, .int 0), (0, .int p0)]) hx hb dX6_turnedOver_1 rfl hl (by decide) rfl (fun ls hl => ?_)
  refine lv_iconst (v := 0) hx hb dX6_turnedOver_2 (by decide) ?_
  refine lv_istore_n (lv' := [(2, .int 0), (1, .int 0), (0, .int p0)]) hx hb dX6_turnedOver_3 rfl hl (by decide) rfl (fun ls hl => ?_)
  refine k_X6_turnedOver_4 X   _ _ _ _ _ _ h hw (lv_sub hl [2, 1, 0] rfl)
/-! X6_turned -/
def bd_X6_turned_4 (Q : Int32 → Prop) (P : Int32 → Int32 → Int32 → Prop) (x0 : Int32) (x1 : Int32) (x2 : Int32) : Prop := (4 ≤ x2 → Q x1 ) ∧ (¬ 4 ≤ x2 → wp_X6_colorsAt  x0 x2 (fun (r_1 : Int32) => ∀ x1_2 : Int32, x1_2 = (x1 ||| (jshl r_1 (4 * (jrem (x2 + 1) 4)))) → ∀ x2_3 : Int32, x2_3 = x2 + 1 → P x0 x1_2 x2_3))
def wp_X6_turned_4 (Q : Int32 → Prop)  (x0 : Int32) (x1 : Int32) (x2 : Int32) : Prop := ∀ P : Int32 → Int32 → Int32 → Prop, (∀ (x0 : Int32) (x1 : Int32) (x2 : Int32), bd_X6_turned_4 Q P  x0 x1 x2 → P x0 x1 x2) → P x0 x1 x2
set_option maxHeartbeats 4000000 in
set_option maxRecDepth 100000 in
theorem kb_X6_turned_4 {p : Program} {l : Launch} {e : Env} {s : State} {m : MethodId} {below : List Frame} {meth : Method} {c : Code} {args : Array Value} {D : va_G} {t : T3} {A : Nat → Prop} (X : Cx p s m meth c args cX6_turned 3 (some .int) RX6 wsX6_turned D t A)  {Q : Int32 → Prop} {P : Int32 → Int32 → Int32 → Prop} (hP : ∀ (x0 : Int32) (x1 : Int32) (x2 : Int32) (H : Heap) (locs : List Loc) (ls : Array Slot), P x0 x1 x2 → Wd D A s.heap ([] : va_W) H locs → lv_has ls 3 [(0, .int x0), (1, .int x1), (2, .int x2)] → W p l e ({ frames := 1, cells := 0, slots := 0, locals := 21 } : Room) s m args below meth c H locs 0 0 (Ei below args s A D (fun (u : Unit) => ([] : va_W)) (fun (r : Int32) (u : Unit) => Q r ) 0 0) (F0 m 4 ls [])) : ∀ (x0 : Int32) (x1 : Int32) (x2 : Int32) (H : Heap) (locs : List Loc) (ls : Array Slot), bd_X6_turned_4 Q P  x0 x1 x2 → Wd D A s.heap ([] : va_W) H locs → lv_has ls 3 [(0, .int x0), (1, .int x1), (2, .int x2)] → W p l e ({ frames := 1, cells := 0, slots := 0, locals := 21 } : Room) s m args below meth c H locs 0 0 (Ei below args s A D (fun (u : Unit) => ([] : va_W)) (fun (r : Int32) (u : Unit) => Q r ) 0 0) (F0 m 4 ls []) := by
  intro x0 x1 x2 H locs ls h hw hl
  have hx := X.1.1
  have hb := X.1.2.1
  refine lv_iload_n hx hb dX6_turned_4 rfl (lv_at hl 2 rfl) ?_
  refine lv_iconst (v := 4) hx hb dX6_turned_5 (by decide) ?_
  refine lv_icmp_ge (tgt := 31) hx hb dX6_turned_6 (by decide) (fun c_4 => ?_) (fun c_4 => ?_)
  · replace h := h.1 c_4
    refine lv_iload_n hx hb dX6_turned_31 rfl (lv_at hl 1 rfl) ?_
    exact e_i (w1 := (fun (u : Unit) => ([] : va_W))) X () hw h dX6_turned_32
  replace h := h.2 c_4
  refine lv_iload_n hx hb dX6_turned_9 rfl (lv_at hl 1 rfl) ?_
  refine lv_iload_n hx hb dX6_turned_10 rfl (lv_at hl 0 rfl) ?_
  refine lv_iload_n hx hb dX6_turned_11 rfl (lv_at hl 2 rfl) ?_
  refine r_ci X hw pm_n (wn := fun (u : Unit) => ([] : va_W)) (fun u => (pm_n).symm) (r_runS X hw (c_X6_colorsAt l D t x0 x2 _ h) pm_n (va_cwS 2 X.1.2.2.2.2 gX6_turned_X6_colorsAt rfl rfl rfl (by decide +kernel) ⟨Nat.le_of_ble_eq_true rfl, Nat.le_of_ble_eq_true rfl⟩) rfl hl rfl (Nat.le_of_ble_eq_true rfl) dX6_turned_12 ⟨Nat.le_of_ble_eq_true rfl, Nat.le_of_ble_eq_true rfl⟩) (fun r_1 u H locs h hw => ?_)
  refine lv_iconst (v := 4) hx hb dX6_turned_15 (by decide) ?_
  refine lv_iload_n hx hb dX6_turned_16 rfl (lv_at hl 2 rfl) ?_
  refine lv_iconst (v := 1) hx hb dX6_turned_17 (by decide) ?_
  refine lv_iadd hx hb dX6_turned_18 ?_
  refine lv_iconst (v := 4) hx hb dX6_turned_19 (by decide) ?_
  refine r_irem hx hb dX6_turned_20 (by decide) ?_
  refine lv_imul hx hb dX6_turned_21 ?_
  refine r_ishl hx hb dX6_turned_22 ?_
  refine lv_ior hx hb dX6_turned_23 ?_
  refine lv_topi (fun x1_2 ex1_2 => ?_)
  replace h := h x1_2 ex1_2
  refine lv_istore_n (lv' := [(1, .int x1_2), (0, .int x0), (2, .int x2)]) hx hb dX6_turned_24 rfl hl (by decide) rfl (fun ls hl => ?_)
  obtain ⟨x2_3, ex2_3⟩ : ∃ z : Int32, z = x2 + 1 := ⟨_, rfl⟩
  replace h := h x2_3 ex2_3
  refine lv_iinc (v := x2_3) (lv' := [(2, .int x2_3), (1, .int x1_2), (0, .int x0)]) hx hb dX6_turned_25 hl (k := 2) rfl (by rw [ex2_3]; rfl) (by decide) rfl (fun ls hl => ?_)
  refine lv_goto (tgt := 4) hx hb dX6_turned_28 (by decide) ?_
  exact hP _ _ _ _ _ _ h hw (lv_sub hl [2, 1, 0] rfl)
set_option maxHeartbeats 4000000 in
set_option maxRecDepth 100000 in
theorem k_X6_turned_4 {p : Program} {l : Launch} {e : Env} {s : State} {m : MethodId} {below : List Frame} {meth : Method} {c : Code} {args : Array Value} {D : va_G} {t : T3} {A : Nat → Prop} (X : Cx p s m meth c args cX6_turned 3 (some .int) RX6 wsX6_turned D t A)  {Q : Int32 → Prop}   : ∀ (x0 : Int32) (x1 : Int32) (x2 : Int32) (H : Heap) (locs : List Loc) (ls : Array Slot), wp_X6_turned_4 Q  x0 x1 x2 → Wd D A s.heap ([] : va_W) H locs → lv_has ls 3 [(0, .int x0), (1, .int x1), (2, .int x2)] → W p l e ({ frames := 1, cells := 0, slots := 0, locals := 21 } : Room) s m args below meth c H locs 0 0 (Ei below args s A D (fun (u : Unit) => ([] : va_W)) (fun (r : Int32) (u : Unit) => Q r ) 0 0) (F0 m 4 ls []) := by
  intro x0 x1 x2 H locs ls h hw hl
  have hx := X.1.1
  have hb := X.1.2.1
  refine h (fun (x0 : Int32) (x1 : Int32) (x2 : Int32) => ∀ (H : Heap) (locs : List Loc) (ls : Array Slot), Wd D A s.heap ([] : va_W) H locs → lv_has ls 3 [(0, .int x0), (1, .int x1), (2, .int x2)] → W p l e ({ frames := 1, cells := 0, slots := 0, locals := 21 } : Room) s m args below meth c H locs 0 0 (Ei below args s A D (fun (u : Unit) => ([] : va_W)) (fun (r : Int32) (u : Unit) => Q r ) 0 0) (F0 m 4 ls [])) (fun x0 x1 x2 h H locs ls hw hl => ?_) H locs ls hw hl
  exact kb_X6_turned_4 X  (fun x0 x1 x2 H locs ls q hw hl => q H locs ls hw hl)  x0 x1 x2 _ _ _ h hw hl
def wp_X6_turned (p0 : Int32) (Q : Int32 → Prop) : Prop := wp_X6_turned_4 Q  p0 0 0
set_option maxHeartbeats 4000000 in
set_option maxRecDepth 100000 in
theorem c_X6_turned (l : Launch) (D : va_G) (t : T3)  (p0 : Int32) (Q : Int32 → Prop) (h : wp_X6_turned p0 Q) : Ct l yX6_turned wsX6_turned 1 21 0 0 [.int p0] D t ([] : va_W) (fun sz => Qi D ([] : va_W) (fun (u : Unit) => ([] : va_W)) (fun (r : Int32) (u : Unit) => Q r ) sz) := by
  refine Ct.of (Qf := fun _ A => va_Qi (fun (r : Int32) (u : Unit) => Q r ) (B1 D (fun (u : Unit) => ([] : va_W)) A) A) cX6_turned 3 (some .int) (by decide) rfl (Nat.le_of_ble_eq_true rfl) ?_
  intro p e s m below meth c A ls hAe hin X hw hl
  generalize ([.int p0] : List Value).toArray = args at X ⊢
  have hl : lv_has ls 3 [(0, .int p0)] := hl
  have hx := X.1.1
  have hb := X.1.2.1
  refine lv_iconst (v := 0) hx hb dX6_turned_0 (by decide) ?_
  refine lv_istore_n (lv' := [(1, .int 0), (0, .int p0)]) hx hb dX6_turned_1 rfl hl (by decide) rfl (fun ls hl => ?_)
  refine lv_iconst (v := 0) hx hb dX6_turned_2 (by decide) ?_
  refine lv_istore_n (lv' := [(2, .int 0), (1, .int 0), (0, .int p0)]) hx hb dX6_turned_3 rfl hl (by decide) rfl (fun ls hl => ?_)
  refine k_X6_turned_4 X   _ _ _ _ _ _ h hw (lv_sub hl [2, 1, 0] rfl)
/-! X1_next -/
theorem in_X1_next_X1 : ∀ w ∈ u_ws RX1 TX1 3, w ∈ wsX1_next := fun w h => (List.mem_cons_of_mem _ (List.mem_append_right _ h))
theorem fl_X1_next_16 : Cond.fieldLink RX1 16 "TwoFacedTiles$Draws" "rest" "I" ∈ wsX1_next := List.mem_of_getElem? (i := 1) rfl
theorem fl_X1_next_13 : Cond.fieldLink RX1 13 "TwoFacedTiles$Draws" "colors" "I" ∈ wsX1_next := List.mem_of_getElem? (i := 2) rfl
theorem fl_X1_next_7 : Cond.fieldLink RX1 7 "TwoFacedTiles$Draws" "seed" "I" ∈ wsX1_next := List.mem_of_getElem? (i := 3) rfl
def wp_X1_next (vD : DV) (Q : Int32 → DV → Prop) : Prop := ¬ (DV.colors vD) = 0 ∧ ∀ x1_2 : Int32, x1_2 = (1 + (jrem (jrem (DV.rest vD) 10) (DV.colors vD))) → ∀ f_3 : Int32, f_3 = ((DV.rest vD) / 10) → (¬ f_3 = 0 → Q x1_2 (DV.s_rest vD f_3)) ∧ (f_3 = 0 → ∀ f_4 : Int32, f_4 = (DV.seed vD) → Q x1_2 (DV.s_rest vD f_4))
set_option maxHeartbeats 4000000 in
set_option maxRecDepth 100000 in
theorem c_X1_next (l : Launch) (D : va_G) (t : T3) (aD : Nat) (vD : DV) (Q : Int32 → DV → Prop) (h : wp_X1_next vD Q) : Ct l yX1_next wsX1_next 0 0 0 0 [.ref aD] D t (dW t aD vD) (fun sz => Qi D (dW t aD vD) (fun (u : DV) => (dW t aD u)) (fun (r : Int32) (u : DV) => Q r u) sz) := by
  refine Ct.of (Qf := fun _ A => va_Qi (fun (r : Int32) (u : DV) => Q r u) (B1 D (fun (u : DV) => (dW t aD u)) A) A) cX1_next 2 (some .int) (by decide) rfl (Nat.le_of_ble_eq_true rfl) ?_
  intro p e s m below meth c A ls hAe hin X hw hl
  generalize ([.ref aD] : List Value).toArray = args at X ⊢
  have hl : lv_has ls 2 [(0, .ref aD)] := hl
  have hx := X.1.1
  have hb := X.1.2.1
  refine lv_iconst (v := 1) hx hb dX1_next_0 (by decide) ?_
  refine lv_aload_n hx hb dX1_next_1 rfl (lv_at hl 0 rfl) ?_
  refine r_get (ci := 1) (C := RX1) (T := TX1) (N := 3) X hw 0 rfl rfl 2 (by decide) in_X1_next_X1 fl_X1_next_16 (v := .int (DV.rest vD)) rfl dX1_next_2 ?_
  refine lv_bipush (v := 10) hx hb dX1_next_5 (by decide) ?_
  refine r_irem hx hb dX1_next_7 (by decide) ?_
  refine lv_aload_n hx hb dX1_next_8 rfl (lv_at hl 0 rfl) ?_
  refine r_get (ci := 1) (C := RX1) (T := TX1) (N := 3) X hw 0 rfl rfl 1 (by decide) in_X1_next_X1 fl_X1_next_13 (v := .int (DV.colors vD)) rfl dX1_next_9 ?_
  obtain ⟨hn_1, h⟩ := h
  refine r_irem hx hb dX1_next_12 hn_1 ?_
  refine lv_iadd hx hb dX1_next_13 ?_
  refine lv_topi (fun x1_2 ex1_2 => ?_)
  replace h := h x1_2 ex1_2
  refine lv_istore_n (lv' := [(1, .int x1_2), (0, .ref aD)]) hx hb dX1_next_14 rfl hl (by decide) rfl (fun ls hl => ?_)
  refine lv_aload_n hx hb dX1_next_15 rfl (lv_at hl 1 rfl) ?_
  refine lv_aload_n hx hb dX1_next_16 rfl (lv_at hl 1 rfl) ?_
  refine r_get (ci := 1) (C := RX1) (T := TX1) (N := 3) X hw 0 rfl rfl 2 (by decide) in_X1_next_X1 fl_X1_next_16 (v := .int (DV.rest vD)) rfl dX1_next_17 ?_
  refine lv_bipush (v := 10) hx hb dX1_next_20 (by decide) ?_
  refine lv_idiv hx hb dX1_next_22 (by decide) ?_
  refine lv_topi (fun f_3 ef_3 => ?_)
  replace h := h f_3 ef_3
  refine r_put (ci := 1) (C := RX1) (T := TX1) (N := 3) (v := .int f_3) (ws' := (dW t aD (DV.s_rest vD f_3))) X hw 0 rfl rfl 2 (by decide) in_X1_next_X1 tyX1 tyX1_ok nmX1 fl_X1_next_16 rfl rfl rfl (Nat.le_of_ble_eq_true rfl) rfl dX1_next_23 (fun H locs hw => ?_)
  refine lv_aload_n hx hb dX1_next_26 rfl (lv_at hl 1 rfl) ?_
  refine r_get (ci := 1) (C := RX1) (T := TX1) (N := 3) X hw 0 rfl rfl 2 (by decide) in_X1_next_X1 fl_X1_next_16 (v := .int f_3) rfl dX1_next_27 ?_
  refine lv_if_ne (tgt := 41) hx hb dX1_next_30 (by decide) (fun c_5 => ?_) (fun c_5 => ?_)
  · replace h := h.1 c_5
    refine lv_iload_n hx hb dX1_next_41 rfl (lv_at hl 0 rfl) ?_
    exact e_i (w1 := (fun (u : DV) => (dW t aD u))) X ((DV.s_rest vD f_3)) hw h dX1_next_42
  replace h := h.2 c_5
  refine lv_aload_n hx hb dX1_next_33 rfl (lv_at hl 1 rfl) ?_
  refine lv_aload_n hx hb dX1_next_34 rfl (lv_at hl 1 rfl) ?_
  refine r_get (ci := 1) (C := RX1) (T := TX1) (N := 3) X hw 0 rfl rfl 0 (by decide) in_X1_next_X1 fl_X1_next_7 (v := .int (DV.seed vD)) rfl dX1_next_35 ?_
  refine lv_topi (fun f_4 ef_4 => ?_)
  replace h := h f_4 ef_4
  refine r_put (ci := 1) (C := RX1) (T := TX1) (N := 3) (v := .int f_4) (ws' := (dW t aD (DV.s_rest vD f_4))) X hw 0 rfl rfl 2 (by decide) in_X1_next_X1 tyX1 tyX1_ok nmX1 fl_X1_next_16 rfl rfl rfl (Nat.le_of_ble_eq_true rfl) rfl dX1_next_38 (fun H locs hw => ?_)
  refine lv_iload_n hx hb dX1_next_41 rfl (lv_at hl 0 rfl) ?_
  exact e_i (w1 := (fun (u : DV) => (dW t aD u))) X ((DV.s_rest vD f_4)) hw h dX1_next_42
/-! X6_opposite -/
def wp_X6_opposite (p0 : Int32) (Q : Int32 → Prop) : Prop := Q (jrem (p0 + 2) 4) 
set_option maxHeartbeats 4000000 in
set_option maxRecDepth 100000 in
theorem c_X6_opposite (l : Launch) (D : va_G) (t : T3)  (p0 : Int32) (Q : Int32 → Prop) (h : wp_X6_opposite p0 Q) : Ct l yX6_opposite wsX6_opposite 0 0 0 0 [.int p0] D t ([] : va_W) (fun sz => Qi D ([] : va_W) (fun (u : Unit) => ([] : va_W)) (fun (r : Int32) (u : Unit) => Q r ) sz) := by
  refine Ct.of (Qf := fun _ A => va_Qi (fun (r : Int32) (u : Unit) => Q r ) (B1 D (fun (u : Unit) => ([] : va_W)) A) A) cX6_opposite 1 (some .int) (by decide) rfl (Nat.le_of_ble_eq_true rfl) ?_
  intro p e s m below meth c A ls hAe hin X hw hl
  generalize ([.int p0] : List Value).toArray = args at X ⊢
  have hl : lv_has ls 1 [(0, .int p0)] := hl
  have hx := X.1.1
  have hb := X.1.2.1
  refine lv_iload_n hx hb dX6_opposite_0 rfl (lv_at hl 0 rfl) ?_
  refine lv_iconst (v := 2) hx hb dX6_opposite_1 (by decide) ?_
  refine lv_iadd hx hb dX6_opposite_2 ?_
  refine lv_iconst (v := 4) hx hb dX6_opposite_3 (by decide) ?_
  refine r_irem hx hb dX6_opposite_4 (by decide) ?_
  exact e_i (w1 := (fun (u : Unit) => ([] : va_W))) X () hw h dX6_opposite_5
/-! X1_start -/
theorem in_X1_start_X1 : ∀ w ∈ u_ws RX1 TX1 3, w ∈ wsX1_start := fun w h => (List.mem_cons_of_mem _ (List.mem_append_right _ h))
theorem fl_X1_start_7 : Cond.fieldLink RX1 7 "TwoFacedTiles$Draws" "seed" "I" ∈ wsX1_start := List.mem_of_getElem? (i := 1) rfl
theorem fl_X1_start_13 : Cond.fieldLink RX1 13 "TwoFacedTiles$Draws" "colors" "I" ∈ wsX1_start := List.mem_of_getElem? (i := 2) rfl
theorem fl_X1_start_16 : Cond.fieldLink RX1 16 "TwoFacedTiles$Draws" "rest" "I" ∈ wsX1_start := List.mem_of_getElem? (i := 3) rfl
def wp_X1_start_16 (Q : DV → Prop) (vD : DV) (x1 : Int32) (t1 : Int32) : Prop := Q (DV.s_rest (DV.s_colors vD t1) x1)
set_option maxHeartbeats 4000000 in
set_option maxRecDepth 100000 in
theorem k_X1_start_16 {p : Program} {l : Launch} {e : Env} {s : State} {m : MethodId} {below : List Frame} {meth : Method} {c : Code} {args : Array Value} {D : va_G} {t : T3} {A : Nat → Prop} (X : Cx p s m meth c args cX1_start 3 none RX1 wsX1_start D t A) (aD : Nat) {Q : DV → Prop}  : ∀ (vD : DV) (x1 : Int32) (t1 : Int32) (H : Heap) (locs : List Loc) (ls : Array Slot), wp_X1_start_16 Q vD x1 t1 → Wd D A s.heap (dW t aD vD) H locs → lv_has ls 3 [(0, .ref aD), (1, .int x1)] → W p l e ({ frames := 0, cells := 0, slots := 0, locals := 0 } : Room) s m args below meth c H locs 0 0 (Ev below args s A D (fun (u : DV) => (dW t aD u)) (fun (u : DV) => Q u) 0 0) (F0 m 16 ls [.int t1, .ref aD]) := by
  intro vD x1 t1 H locs ls h hw hl
  have hx := X.1.1
  have hb := X.1.2.1
  refine r_put (ci := 1) (C := RX1) (T := TX1) (N := 3) (v := .int t1) (ws' := (dW t aD (DV.s_colors vD t1))) X hw 0 rfl rfl 1 (by decide) in_X1_start_X1 tyX1 tyX1_ok nmX1 fl_X1_start_13 rfl rfl rfl (Nat.le_of_ble_eq_true rfl) rfl dX1_start_16 (fun H locs hw => ?_)
  refine lv_aload_n hx hb dX1_start_19 rfl (lv_at hl 0 rfl) ?_
  refine lv_iload_n hx hb dX1_start_20 rfl (lv_at hl 1 rfl) ?_
  refine r_put (ci := 1) (C := RX1) (T := TX1) (N := 3) (v := .int x1) (ws' := (dW t aD (DV.s_rest (DV.s_colors vD t1) x1))) X hw 0 rfl rfl 2 (by decide) in_X1_start_X1 tyX1 tyX1_ok nmX1 fl_X1_start_16 rfl rfl rfl (Nat.le_of_ble_eq_true rfl) rfl dX1_start_21 (fun H locs hw => ?_)
  exact e_v (w1 := (fun (u : DV) => (dW t aD u))) X ((DV.s_rest (DV.s_colors vD t1) x1)) hw h dX1_start_24
def wp_X1_start (vD : DV) (p1 : Int32) (p2 : Int32) (Q : DV → Prop) : Prop := (1 ≤ p2 → wp_X1_start_16  Q (DV.s_seed vD p1) p1 p2) ∧ (¬ 1 ≤ p2 → wp_X1_start_16  Q (DV.s_seed vD p1) p1 1)
set_option maxHeartbeats 4000000 in
set_option maxRecDepth 100000 in
theorem c_X1_start (l : Launch) (D : va_G) (t : T3) (aD : Nat) (vD : DV) (p1 : Int32) (p2 : Int32) (Q : DV → Prop) (h : wp_X1_start vD p1 p2 Q) : Ct l yX1_start wsX1_start 0 0 0 0 [.ref aD, .int p1, .int p2] D t (dW t aD vD) (fun sz => Qv D (dW t aD vD) (fun (u : DV) => (dW t aD u)) (fun (u : DV) => Q u) sz) := by
  refine Ct.of (Qf := fun _ A => va_Qv (fun (u : DV) => Q u) (B1 D (fun (u : DV) => (dW t aD u)) A) A) cX1_start 3 none (by decide) rfl (Nat.le_of_ble_eq_true rfl) ?_
  intro p e s m below meth c A ls hAe hin X hw hl
  generalize ([.ref aD, .int p1, .int p2] : List Value).toArray = args at X ⊢
  have hl : lv_has ls 3 [(0, .ref aD), (1, .int p1), (2, .int p2)] := hl
  have hx := X.1.1
  have hb := X.1.2.1
  refine lv_aload_n hx hb dX1_start_0 rfl (lv_at hl 0 rfl) ?_
  refine lv_iload_n hx hb dX1_start_1 rfl (lv_at hl 1 rfl) ?_
  refine r_put (ci := 1) (C := RX1) (T := TX1) (N := 3) (v := .int p1) (ws' := (dW t aD (DV.s_seed vD p1))) X hw 0 rfl rfl 0 (by decide) in_X1_start_X1 tyX1 tyX1_ok nmX1 fl_X1_start_7 rfl rfl rfl (Nat.le_of_ble_eq_true rfl) rfl dX1_start_2 (fun H locs hw => ?_)
  refine lv_aload_n hx hb dX1_start_5 rfl (lv_at hl 0 rfl) ?_
  refine lv_iload_n hx hb dX1_start_6 rfl (lv_at hl 2 rfl) ?_
  refine lv_iconst (v := 1) hx hb dX1_start_7 (by decide) ?_
  refine lv_icmp_ge (tgt := 15) hx hb dX1_start_8 (by decide) (fun c_1 => ?_) (fun c_1 => ?_)
  · replace h := h.1 c_1
    refine lv_iload_n hx hb dX1_start_15 rfl (lv_at hl 2 rfl) ?_
    exact k_X1_start_16 X aD _ _ _ _ _ _ h hw (lv_sub hl [0, 1] rfl)
  replace h := h.2 c_1
  refine lv_iconst (v := 1) hx hb dX1_start_11 (by decide) ?_
  refine lv_goto (tgt := 16) hx hb dX1_start_12 (by decide) ?_
  exact k_X1_start_16 X aD _ _ _ _ _ _ h hw (lv_sub hl [0, 1] rfl)
/-! J6_bitCount_0f7a4 -/
theorem k_J6_bitCount_0f7a4_265 : Cond.constant RJ6 265 (1431655765) ∈ wsJ6_bitCount_0f7a4 := List.mem_of_getElem? (i := 1) rfl
theorem k_J6_bitCount_0f7a4_266 : Cond.constant RJ6 266 (858993459) ∈ wsJ6_bitCount_0f7a4 := List.mem_of_getElem? (i := 2) rfl
theorem k_J6_bitCount_0f7a4_267 : Cond.constant RJ6 267 (252645135) ∈ wsJ6_bitCount_0f7a4 := List.mem_of_getElem? (i := 3) rfl
def wp_J6_bitCount_0f7a4 (p0 : Int32) (Q : Int32 → Prop) : Prop := ∀ x0_1 : Int32, x0_1 = (p0 - ((ushr p0 1) &&& 1431655765)) → ∀ x0_2 : Int32, x0_2 = ((x0_1 &&& 858993459) + ((ushr x0_1 2) &&& 858993459)) → ∀ x0_3 : Int32, x0_3 = ((x0_2 + (ushr x0_2 4)) &&& 252645135) → ∀ x0_4 : Int32, x0_4 = (x0_3 + (ushr x0_3 8)) → ∀ x0_5 : Int32, x0_5 = (x0_4 + (ushr x0_4 16)) → Q (x0_5 &&& 63) 
set_option maxHeartbeats 4000000 in
set_option maxRecDepth 100000 in
theorem c_J6_bitCount_0f7a4 (l : Launch) (D : va_G) (t : T3)  (p0 : Int32) (Q : Int32 → Prop) (h : wp_J6_bitCount_0f7a4 p0 Q) : Ct l yJ6_bitCount_0f7a4 wsJ6_bitCount_0f7a4 0 0 0 0 [.int p0] D t ([] : va_W) (fun sz => Qi D ([] : va_W) (fun (u : Unit) => ([] : va_W)) (fun (r : Int32) (u : Unit) => Q r ) sz) := by
  refine Ct.of (Qf := fun _ A => va_Qi (fun (r : Int32) (u : Unit) => Q r ) (B1 D (fun (u : Unit) => ([] : va_W)) A) A) cJ6_bitCount_0f7a4 1 (some .int) (by decide) rfl (Nat.le_of_ble_eq_true rfl) ?_
  intro p e s m below meth c A ls hAe hin X hw hl
  generalize ([.int p0] : List Value).toArray = args at X ⊢
  have hl : lv_has ls 1 [(0, .int p0)] := hl
  have hx := X.1.1
  have hb := X.1.2.1
  refine lv_iload_n hx hb dJ6_bitCount_0f7a4_0 rfl (lv_at hl 0 rfl) ?_
  refine lv_iload_n hx hb dJ6_bitCount_0f7a4_1 rfl (lv_at hl 0 rfl) ?_
  refine lv_iconst (v := 1) hx hb dJ6_bitCount_0f7a4_2 (by decide) ?_
  refine r_iushr hx hb dJ6_bitCount_0f7a4_3 ?_
  refine lv_ldcw (v := 1431655765) hx hb X.1.2.2.2.1 (X.1.2.2.2.2 _ k_J6_bitCount_0f7a4_265) dJ6_bitCount_0f7a4_4 ?_
  refine lv_iand hx hb dJ6_bitCount_0f7a4_7 ?_
  refine lv_isub hx hb dJ6_bitCount_0f7a4_8 ?_
  refine lv_topi (fun x0_1 ex0_1 => ?_)
  replace h := h x0_1 ex0_1
  refine lv_istore_n (lv' := [(0, .int x0_1)]) hx hb dJ6_bitCount_0f7a4_9 rfl hl (by decide) rfl (fun ls hl => ?_)
  refine lv_iload_n hx hb dJ6_bitCount_0f7a4_10 rfl (lv_at hl 0 rfl) ?_
  refine lv_ldcw (v := 858993459) hx hb X.1.2.2.2.1 (X.1.2.2.2.2 _ k_J6_bitCount_0f7a4_266) dJ6_bitCount_0f7a4_11 ?_
  refine lv_iand hx hb dJ6_bitCount_0f7a4_14 ?_
  refine lv_iload_n hx hb dJ6_bitCount_0f7a4_15 rfl (lv_at hl 0 rfl) ?_
  refine lv_iconst (v := 2) hx hb dJ6_bitCount_0f7a4_16 (by decide) ?_
  refine r_iushr hx hb dJ6_bitCount_0f7a4_17 ?_
  refine lv_ldcw (v := 858993459) hx hb X.1.2.2.2.1 (X.1.2.2.2.2 _ k_J6_bitCount_0f7a4_266) dJ6_bitCount_0f7a4_18 ?_
  refine lv_iand hx hb dJ6_bitCount_0f7a4_21 ?_
  refine lv_iadd hx hb dJ6_bitCount_0f7a4_22 ?_
  refine lv_topi (fun x0_2 ex0_2 => ?_)
  replace h := h x0_2 ex0_2
  refine lv_istore_n (lv' := [(0, .int x0_2)]) hx hb dJ6_bitCount_0f7a4_23 rfl hl (by decide) rfl (fun ls hl => ?_)
  refine lv_iload_n hx hb dJ6_bitCount_0f7a4_24 rfl (lv_at hl 0 rfl) ?_
  refine lv_iload_n hx hb dJ6_bitCount_0f7a4_25 rfl (lv_at hl 0 rfl) ?_
  refine lv_iconst (v := 4) hx hb dJ6_bitCount_0f7a4_26 (by decide) ?_
  refine r_iushr hx hb dJ6_bitCount_0f7a4_27 ?_
  refine lv_iadd hx hb dJ6_bitCount_0f7a4_28 ?_
  refine lv_ldcw (v := 252645135) hx hb X.1.2.2.2.1 (X.1.2.2.2.2 _ k_J6_bitCount_0f7a4_267) dJ6_bitCount_0f7a4_29 ?_
  refine lv_iand hx hb dJ6_bitCount_0f7a4_32 ?_
  refine lv_topi (fun x0_3 ex0_3 => ?_)
  replace h := h x0_3 ex0_3
  refine lv_istore_n (lv' := [(0, .int x0_3)]) hx hb dJ6_bitCount_0f7a4_33 rfl hl (by decide) rfl (fun ls hl => ?_)
  refine lv_iload_n hx hb dJ6_bitCount_0f7a4_34 rfl (lv_at hl 0 rfl) ?_
  refine lv_iload_n hx hb dJ6_bitCount_0f7a4_35 rfl (lv_at hl 0 rfl) ?_
  refine lv_bipush (v := 8) hx hb dJ6_bitCount_0f7a4_36 (by decide) ?_
  refine r_iushr hx hb dJ6_bitCount_0f7a4_38 ?_
  refine lv_iadd hx hb dJ6_bitCount_0f7a4_39 ?_
  refine lv_topi (fun x0_4 ex0_4 => ?_)
  replace h := h x0_4 ex0_4
  refine lv_istore_n (lv' := [(0, .int x0_4)]) hx hb dJ6_bitCount_0f7a4_40 rfl hl (by decide) rfl (fun ls hl => ?_)
  refine lv_iload_n hx hb dJ6_bitCount_0f7a4_41 rfl (lv_at hl 0 rfl) ?_
  refine lv_iload_n hx hb dJ6_bitCount_0f7a4_42 rfl (lv_at hl 0 rfl) ?_
  refine lv_bipush (v := 16) hx hb dJ6_bitCount_0f7a4_43 (by decide) ?_
  refine r_iushr hx hb dJ6_bitCount_0f7a4_45 ?_
  refine lv_iadd hx hb dJ6_bitCount_0f7a4_46 ?_
  refine lv_topi (fun x0_5 ex0_5 => ?_)
  replace h := h x0_5 ex0_5
  refine lv_istore_n (lv' := [(0, .int x0_5)]) hx hb dJ6_bitCount_0f7a4_47 rfl hl (by decide) rfl (fun ls hl => ?_)
  refine lv_iload_n hx hb dJ6_bitCount_0f7a4_48 rfl (lv_at hl 0 rfl) ?_
  refine lv_bipush (v := 63) hx hb dJ6_bitCount_0f7a4_49 (by decide) ?_
  refine lv_iand hx hb dJ6_bitCount_0f7a4_51 ?_
  exact e_i (w1 := (fun (u : Unit) => ([] : va_W))) X () hw h dJ6_bitCount_0f7a4_52
