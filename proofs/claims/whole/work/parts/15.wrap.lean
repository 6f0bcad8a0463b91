/-! methods with a table of their own -/
theorem Ct.ofW {l : Launch} {y : MethodName} {ws ws' : List Cond} {fr lo mc ms : Nat} {As : List Value} {D : va_G} {t : T3} {w0 : va_W} {Qf : Nat → (Nat → Prop) → Array Value → State → Outcome → State → Prop} (cc : ByteArray) (maxL : Nat) (ret : Option FieldType) (hh : List (Nat × Nat × Nat × Nat)) (hy : plainName y.cls = true) (hw : ws = Cond.codeWith y cc maxL ret hh :: ws') (hlen : (lg_sl As).length ≤ maxL)
    (body : ∀ (p : Program) (e : Env) (s : State) (m : MethodId) (below : List Frame) (meth : Method) (c : Code) (A : Nat → Prop) (ls : Array Slot), c.exceptionTable.toList = tableOf hh → Cx p s m meth c As.toArray cc maxL ret y.cls ws D t A → Wd D A s.heap w0 s.heap [] → lv_has ls maxL (lv_args 0 As) →
      W p l e ({ frames := fr, cells := mc, slots := ms, locals := lo }) s m As.toArray below meth c s.heap [] 0 0 (MQ below (Qf s.heap.size A) As.toArray s mc ms A) (F0 m 0 ls [])) :
    Ct l y ws fr lo mc ms As D t w0 (fun sz => Qf sz (va_A w0 sz)) := by
  intro sz
  refine va_MetW (cc := cc) (maxL := maxL) (ret := ret) (hh := hh) hy hw ?_
  intro p e s m args below meth c s₁ B hml hv
  obtain ⟨rfl, hsz, hP, hK, hD0, hZ⟩ := hv
  subst hsz
  have hts := atoms_spec (ws := ws) B.pre
  have htab := vx_table (x := y) B (hts _ (by rw [hw]; exact List.mem_cons_self))
  have hl := lv_entry As hlen
  rw [lg_entry_eq]
  exact body p e s m below meth c _ _ htab ⟨⟨B.exec, B.bytes, hml, findClass_of_methodNamed B.named, hts⟩, B.returns, B.notSynchronized, hK, fun q h => Or.inr h, hZ⟩ ⟨hP, hD0.self, va_S.rf⟩ hl
section RW
variable {p : Program} {l : Launch} {e : Env} {R : Room} {s : State} {m : MethodId} {args : Array Value} {below : List Frame} {meth : Method} {c : Code} {H : Heap} {locs : List Loc} {cells slots : Nat} {Q : State → Prop}
variable {cc : ByteArray} {nL : Nat} {ret : Option FieldType} {own : String} {Ts : List Cond} {D : va_G} {t : T3} {A : Nat → Prop} {ws wc wr : va_W} {pc : Nat} {ls : Array Slot} {rest st0 As : List Value} {y : MethodName} {yw : List Cond} {fr lo mc ms n index b maxL : Nat} {bytes : ByteArray} {yret : Option FieldType} {lv : List (Nat × Value)} {Qc : Nat → Array Value → State → Outcome → State → Prop} {hh : List (Nat × Nat × Nat × Nat)}
/-- the first handler takes it -/
theorem x_catch1 (X : Cx p s m meth c args cc nL ret own Ts D t A) (x : Nat × Nat × Nat × Nat) (tl : List (Nat × Nat × Nat × Nat)) (htab : c.exceptionTable.toList = tableOf (x :: tl)) {E : String} {ce : Cell} {q : Addr} (hE : E ∈ exN) (hx : covers ⟨x.1, x.2.1, x.2.2.1, x.2.2.2⟩ pc = true) (h0 : x.2.2.2 ≠ 0) (hlink : Cond.classLink own x.2.2.2 E ∈ Ts) (hcell : H[q]? = some ce) (hv : ce.vm = .none) (hcl : s.vm.findClass E = some ce.cls)
    (kk : W p l e R s m args below meth c H locs cells slots Q (F0 m x.2.2.1 ls [.ref q])) : vx_W p l e R s m args below meth c H locs cells slots Q (F0 m pc ls rest) q :=
  vx_catch X.1.2.2.2.1 [] ⟨x.1, x.2.1, x.2.2.1, x.2.2.2⟩ (tableOf tl) htab (fun z hz => by cases hz) hx h0 (X.1.2.2.2.2 _ hlink) (va_Nw.use rfl (X.2.2.2.1.2.2.2.1 _ hE)) hcell hv hcl kk
/-- the second -/
theorem x_catch2 (X : Cx p s m meth c args cc nL ret own Ts D t A) (w x : Nat × Nat × Nat × Nat) (tl : List (Nat × Nat × Nat × Nat)) (htab : c.exceptionTable.toList = tableOf (w :: x :: tl)) {E E0 : String} {ce : Cell} {q : Addr} (hE : E ∈ exN) (hn : (E, E0) ∈ exC) (hw0 : w.2.2.2 ≠ 0) (hl0 : Cond.classLink own w.2.2.2 E0 ∈ Ts) (hx : covers ⟨x.1, x.2.1, x.2.2.1, x.2.2.2⟩ pc = true) (h0 : x.2.2.2 ≠ 0) (hlink : Cond.classLink own x.2.2.2 E ∈ Ts) (hcell : H[q]? = some ce) (hv : ce.vm = .none) (hcl : s.vm.findClass E = some ce.cls)
    (kk : W p l e R s m args below meth c H locs cells slots Q (F0 m x.2.2.1 ls [.ref q])) : vx_W p l e R s m args below meth c H locs cells slots Q (F0 m pc ls rest) q :=
  vx_catch X.1.2.2.2.1 [⟨w.1, w.2.1, w.2.2.1, w.2.2.2⟩] ⟨x.1, x.2.1, x.2.2.1, x.2.2.2⟩ (tableOf tl) htab (fun z hz => by rw [List.mem_singleton.mp hz]; exact Or.inr ⟨hw0, E0, X.1.2.2.2.2 _ hl0, X.2.2.2.1.2.2.2.2.2.1 _ hn⟩) hx h0 (X.1.2.2.2.2 _ hlink) (va_Nw.use rfl (X.2.2.2.1.2.2.2.1 _ hE)) hcell hv hcl kk
/-- a static call of a method with a table -/
theorem r_runSW (X : Cx p s m meth c args cc nL ret own Ts D t A) (hw : Wd D A s.heap ws H locs) (ct : Ct l y yw fr lo mc ms As D t wc Qc) (hp : ws.Perm (wc ++ wr))
    (cw : vx_CSW R s args own index y bytes maxL yret hh yw ({ frames := fr, cells := mc, slots := ms, locals := lo }) mc ms n) (hlen : As.length = n) (hl : lv_has ls nL lv) (hst : st0 = As.reverse ++ rest) (hW : (rest.map fun v => v.category).sum ≤ 8) (hdg : decode cc pc = .ok (.invokestatic index, 3)) (hcs : cells + mc ≤ R.cells ∧ slots + ms ≤ R.slots) :
    va_Run p l e R s m args below meth c H locs cells slots mc ms (F0 m pc ls st0) rest (Qc H.size As.toArray) (va_A wc H.size) := by
  obtain ⟨hPc, hDc, hFc⟩ := hw.cut hp
  have hZc : ∀ U : State, U.heap = H → s.WarmedH U.vm → ZA (va_A wc H.size) U U.heap := fun U hU hW => by rw [hU]; exact ZA.to X.2.2.2.2.2 hw.2.2.2.1 hW.alike (fun q h => hFc q h (fun z hz => X.2.2.2.2.1 z (Nat.le_trans hw.2.2.1 hz)))
  exact vx_runSW X.1 (ct H.size) cw ⟨Pc0.blind, fun U hU hW => ⟨rfl, by rw [hU], by rw [hU]; exact hPc, X.2.2.2.1.warm hW, hDc, hZc U hU hW⟩⟩ rfl hlen hl.1 hst (lv_room hW) hdg hcs
end RW

/-! L_begin -/
theorem kl13_L_begin : Cond.classLink RL 13 "java/lang/IllegalArgumentException" ∈ wsL_begin := List.mem_of_getElem? (i := 1) rfl
def wp_L_begin (vX : XV) (vO : OV) (p1 : Int32) (p2 : Int32) (Q : Int32 → XV → OV → Prop) : Prop := wp_X6_begin vX p1 p2 (fun (r_2 : Int32) (vX_1 : XV) => ∀ f_3 : Int64, f_3 = (Int32.toInt64 r_2) → ∀ o_4 : Nat → Int64, o_4 = vp_updL vO 0 f_3 → Q 0 vX_1 o_4) (fun (E : String) (vX_5 : XV) => (E = "java/lang/IllegalArgumentException" ∧ Q 1 vX_5 vO))
set_option maxHeartbeats 4000000 in
set_option maxRecDepth 100000 in
theorem c_L_begin (l : Launch) (D : va_G) (t : T3) (aX : XA) (aO : Nat) (vX : XV) (vO : OV) (p1 : Int32) (p2 : Int32) (Q : Int32 → XV → OV → Prop) (hfl : l.stackTraces = false) (h : wp_L_begin vX vO p1 p2 Q) : Ct l yL_begin wsL_begin 7 124 1 6 [.ref (XA.o aX), .int p1, .int p2, .ref aO] D t (xW t aX vX ++ (oW t aO vO)) (fun sz => Qi D (xW t aX vX ++ (oW t aO vO)) (fun (u : XV × OV) => (xW t aX u.1 ++ (oW t aO u.2))) (fun (r : Int32) (u : XV × OV) => Q r u.1 u.2) sz) := by
  refine Ct.ofW (Qf := fun _ A => va_Qi (fun (r : Int32) (u : XV × OV) => Q r u.1 u.2) (B1 D (fun (u : XV × OV) => (xW t aX u.1 ++ (oW t aO u.2))) A) A) cL_begin 5 (some .int) [(0, 10, 13, 13)] (by decide) rfl (Nat.le_of_ble_eq_true rfl) ?_
  intro p e s m below meth c A ls htab X hw hl
  generalize ([.ref (XA.o aX), .int p1, .int p2, .ref aO] : List Value).toArray = args at X ⊢
  have hl : lv_has ls 5 [(0, .ref (XA.o aX)), (1, .int p1), (2, .int p2), (3, .ref aO)] := hl
  have hx := X.1.1
  have hb := X.1.2.1
  refine lv_aload_n hx hb dL_begin_0 rfl (lv_at hl 3 rfl) ?_
  refine lv_iconst (v := 0) hx hb dL_begin_1 (by decide) ?_
  refine lv_aload_n hx hb dL_begin_2 rfl (lv_at hl 0 rfl) ?_
  refine lv_iload_n hx hb dL_begin_3 rfl (lv_at hl 1 rfl) ?_
  refine lv_iload_n hx hb dL_begin_4 rfl (lv_at hl 2 rfl) ?_
  refine x_ci X hw (pm_l pm_0) (wn := fun (u : XV) => (xW t aX u ++ (oW t aO vO))) (fun u => (pm_l pm_0).symm) (x_runV X hw (c_X6_begin l D t aX vX p1 p2 _ _ hfl h) (pm_l pm_0) (cwV 2 X.1.2.2.2.2 gL_begin_X6_begin rfl rfl rfl (by decide +kernel) ⟨Nat.le_of_ble_eq_true rfl, Nat.le_of_ble_eq_true rfl⟩) (ci := 6) rfl rfl rfl rfl hl rfl (Nat.le_of_ble_eq_true rfl) dL_begin_5 ⟨Nat.le_of_ble_eq_true rfl, Nat.le_of_ble_eq_true rfl⟩) (fun E ce q9 u H locs h hw hce hcv hcl => ?_) (fun r_2 u H locs h hw => ?_)
  · obtain ⟨vX_5, rfl⟩ : ∃ z, z = u := ⟨_, rfl⟩
    obtain ⟨rfl, h⟩ := h
    refine x_catch1 X (0, 10, 13, 13) [] htab (by decide +kernel) (by decide) (by decide) kl13_L_begin hce hcv hcl ?_
    refine lv_astore (lv' := [(4, .ref q9), (0, .ref (XA.o aX)), (1, .int p1), (2, .int p2), (3, .ref aO)]) hx hb dL_begin_13 hl (by decide) rfl (fun ls hl => ?_)
    refine lv_iconst (v := 1) hx hb dL_begin_15 (by decide) ?_
    exact e_i (w1 := (fun (u : XV × OV) => (xW t aX u.1 ++ (oW t aO u.2)))) X (vX_5, vO) hw h dL_begin_16
  obtain ⟨vX_1, rfl⟩ : ∃ z, z = u := ⟨_, rfl⟩
  refine lv_i2l (v := Int32.toInt64 r_2) hx hb dL_begin_8 rfl ?_
  refine lv_topl (fun f_3 ef_3 => ?_)
  replace h := h f_3 ef_3
  obtain ⟨o_4, eo_4⟩ : ∃ z : Nat → Int64, z = vp_updL vO 0 f_3 := ⟨_, rfl⟩
  replace h := h o_4 eo_4
  refine r_last (ws' := (xW t aX vX_1 ++ (oW t aO o_4))) X hw 61 rfl (vpl rfl) (by subst eo_4; rfl) dL_begin_9 (fun H locs hw => ?_)
  refine lv_goto (tgt := 17) hx hb dL_begin_10 (by decide) ?_
  refine lv_iconst (v := 0) hx hb dL_begin_17 (by decide) ?_
  exact e_i (w1 := (fun (u : XV × OV) => (xW t aX u.1 ++ (oW t aO u.2)))) X (vX_1, o_4) hw h dL_begin_18
/-! L_addTile -/
theorem kl13_L_addTile : Cond.classLink RL 13 "java/lang/IllegalArgumentException" ∈ wsL_addTile := List.mem_of_getElem? (i := 1) rfl
theorem kl18_L_addTile : Cond.classLink RL 18 "java/lang/IllegalStateException" ∈ wsL_addTile := List.mem_of_getElem? (i := 2) rfl
def wp_L_addTile (vX : XV) (vO : OV) (p1 : Int32) (p2 : Int32) (Q : Int32 → XV → OV → Prop) : Prop := wp_X6_addTile vX p1 p2 (fun (r_2 : Int32) (vX_1 : XV) => ∀ f_3 : Int64, f_3 = (Int32.toInt64 r_2) → ∀ o_4 : Nat → Int64, o_4 = vp_updL vO 0 f_3 → Q 0 vX_1 o_4) (fun (E : String) (vX_5 : XV) => (E = "java/lang/IllegalArgumentException" ∧ Q 1 vX_5 vO) ∨ (E = "java/lang/IllegalStateException" ∧ Q 2 vX_5 vO))
set_option maxHeartbeats 4000000 in
set_option maxRecDepth 100000 in
theorem c_L_addTile (l : Launch) (D : va_G) (t : T3) (aX : XA) (aO : Nat) (vX : XV) (vO : OV) (p1 : Int32) (p2 : Int32) (Q : Int32 → XV → OV → Prop) (hfl : l.stackTraces = false) (h : wp_L_addTile vX vO p1 p2 Q) : Ct l yL_addTile wsL_addTile 7 124 1 6 [.ref (XA.o aX), .int p1, .int p2, .ref aO] D t (xW t aX vX ++ (oW t aO vO)) (fun sz => Qi D (xW t aX vX ++ (oW t aO vO)) (fun (u : XV × OV) => (xW t aX u.1 ++ (oW t aO u.2))) (fun (r : Int32) (u : XV × OV) => Q r u.1 u.2) sz) := by
  refine Ct.ofW (Qf := fun _ A => va_Qi (fun (r : Int32) (u : XV × OV) => Q r u.1 u.2) (B1 D (fun (u : XV × OV) => (xW t aX u.1 ++ (oW t aO u.2))) A) A) cL_addTile 5 (some .int) [(0, 10, 13, 13), (0, 10, 17, 18)] (by decide) rfl (Nat.le_of_ble_eq_true rfl) ?_
  intro p e s m below meth c A ls htab X hw hl
  generalize ([.ref (XA.o aX), .int p1, .int p2, .ref aO] : List Value).toArray = args at X ⊢
  have hl : lv_has ls 5 [(0, .ref (XA.o aX)), (1, .int p1), (2, .int p2), (3, .ref aO)] := hl
  have hx := X.1.1
  have hb := X.1.2.1
  refine lv_aload_n hx hb dL_addTile_0 rfl (lv_at hl 3 rfl) ?_
  refine lv_iconst (v := 0) hx hb dL_addTile_1 (by decide) ?_
  refine lv_aload_n hx hb dL_addTile_2 rfl (lv_at hl 0 rfl) ?_
  refine lv_iload_n hx hb dL_addTile_3 rfl (lv_at hl 1 rfl) ?_
  refine lv_iload_n hx hb dL_addTile_4 rfl (lv_at hl 2 rfl) ?_
  refine x_ci X hw (pm_l pm_0) (wn := fun (u : XV) => (xW t aX u ++ (oW t aO vO))) (fun u => (pm_l pm_0).symm) (x_runV X hw (c_X6_addTile l D t aX vX p1 p2 _ _ hfl h) (pm_l pm_0) (cwV 2 X.1.2.2.2.2 gL_addTile_X6_addTile rfl rfl rfl (by decide +kernel) ⟨Nat.le_of_ble_eq_true rfl, Nat.le_of_ble_eq_true rfl⟩) (ci := 6) rfl rfl rfl rfl hl rfl (Nat.le_of_ble_eq_true rfl) dL_addTile_5 ⟨Nat.le_of_ble_eq_true rfl, Nat.le_of_ble_eq_true rfl⟩) (fun E ce q9 u H locs h hw hce hcv hcl => ?_) (fun r_2 u H locs h hw => ?_)
  · obtain ⟨vX_5, rfl⟩ : ∃ z, z = u := ⟨_, rfl⟩
    rcases h with ⟨rfl, h⟩ | ⟨rfl, h⟩
    · refine x_catch1 X (0, 10, 13, 13) [(0, 10, 17, 18)] htab (by decide +kernel) (by decide) (by decide) kl13_L_addTile hce hcv hcl ?_
      refine lv_astore (lv' := [(4, .ref q9), (0, .ref (XA.o aX)), (1, .int p1), (2, .int p2), (3, .ref aO)]) hx hb dL_addTile_13 hl (by decide) rfl (fun ls hl => ?_)
      refine lv_iconst (v := 1) hx hb dL_addTile_15 (by decide) ?_
      exact e_i (w1 := (fun (u : XV × OV) => (xW t aX u.1 ++ (oW t aO u.2)))) X (vX_5, vO) hw h dL_addTile_16
    · refine x_catch2 X (0, 10, 13, 13) (0, 10, 17, 18) [] htab (E0 := "java/lang/IllegalArgumentException") (by decide +kernel) (by decide +kernel) (by decide) kl13_L_addTile (by decide) (by decide) kl18_L_addTile hce hcv hcl ?_
      refine lv_astore (lv' := [(4, .ref q9), (0, .ref (XA.o aX)), (1, .int p1), (2, .int p2), (3, .ref aO)]) hx hb dL_addTile_17 hl (by decide) rfl (fun ls hl => ?_)
      refine lv_iconst (v := 2) hx hb dL_addTile_19 (by decide) ?_
      exact e_i (w1 := (fun (u : XV × OV) => (xW t aX u.1 ++ (oW t aO u.2)))) X (vX_5, vO) hw h dL_addTile_20
  obtain ⟨vX_1, rfl⟩ : ∃ z, z = u := ⟨_, rfl⟩
  refine lv_i2l (v := Int32.toInt64 r_2) hx hb dL_addTile_8 rfl ?_
  refine lv_topl (fun f_3 ef_3 => ?_)
  replace h := h f_3 ef_3
  obtain ⟨o_4, eo_4⟩ : ∃ z : Nat → Int64, z = vp_updL vO 0 f_3 := ⟨_, rfl⟩
  replace h := h o_4 eo_4
  refine r_last (ws' := (xW t aX vX_1 ++ (oW t aO o_4))) X hw 61 rfl (vpl rfl) (by subst eo_4; rfl) dL_addTile_9 (fun H locs hw => ?_)
  refine lv_goto (tgt := 21) hx hb dL_addTile_10 (by decide) ?_
  refine lv_iconst (v := 0) hx hb dL_addTile_21 (by decide) ?_
  exact e_i (w1 := (fun (u : XV × OV) => (xW t aX u.1 ++ (oW t aO u.2)))) X (vX_1, o_4) hw h dL_addTile_22
/-! L_dropTile -/
theorem kl18_L_dropTile : Cond.classLink RL 18 "java/lang/IllegalStateException" ∈ wsL_dropTile := List.mem_of_getElem? (i := 1) rfl
def wp_L_dropTile (vX : XV) (vO : OV) (Q : Int32 → XV → OV → Prop) : Prop := wp_X6_dropTile vX  (fun (r_2 : Int32) (vX_1 : XV) => ∀ f_3 : Int64, f_3 = (Int32.toInt64 r_2) → ∀ o_4 : Nat → Int64, o_4 = vp_updL vO 0 f_3 → Q 0 vX_1 o_4) (fun (E : String) (vX_5 : XV) => (E = "java/lang/IllegalStateException" ∧ Q 1 vX_5 vO))
set_option maxHeartbeats 4000000 in
set_option maxRecDepth 100000 in
theorem c_L_dropTile (l : Launch) (D : va_G) (t : T3) (aX : XA) (aO : Nat) (vX : XV) (vO : OV) (Q : Int32 → XV → OV → Prop) (hfl : l.stackTraces = false) (h : wp_L_dropTile vX vO Q) : Ct l yL_dropTile wsL_dropTile 7 122 1 6 [.ref (XA.o aX), .ref aO] D t (xW t aX vX ++ (oW t aO vO)) (fun sz => Qi D (xW t aX vX ++ (oW t aO vO)) (fun (u : XV × OV) => (xW t aX u.1 ++ (oW t aO u.2))) (fun (r : Int32) (u : XV × OV) => Q r u.1 u.2) sz) := by
  refine Ct.ofW (Qf := fun _ A => va_Qi (fun (r : Int32) (u : XV × OV) => Q r u.1 u.2) (B1 D (fun (u : XV × OV) => (xW t aX u.1 ++ (oW t aO u.2))) A) A) cL_dropTile 3 (some .int) [(0, 8, 11, 18)] (by decide) rfl (Nat.le_of_ble_eq_true rfl) ?_
  intro p e s m below meth c A ls htab X hw hl
  generalize ([.ref (XA.o aX), .ref aO] : List Value).toArray = args at X ⊢
  have hl : lv_has ls 3 [(0, .ref (XA.o aX)), (1, .ref aO)] := hl
  have hx := X.1.1
  have hb := X.1.2.1
  refine lv_aload_n hx hb dL_dropTile_0 rfl (lv_at hl 1 rfl) ?_
  refine lv_iconst (v := 0) hx hb dL_dropTile_1 (by decide) ?_
  refine lv_aload_n hx hb dL_dropTile_2 rfl (lv_at hl 0 rfl) ?_
  refine x_ci X hw (pm_l pm_0) (wn := fun (u : XV) => (xW t aX u ++ (oW t aO vO))) (fun u => (pm_l pm_0).symm) (x_runV X hw (c_X6_dropTile l D t aX vX _ _ hfl h) (pm_l pm_0) (cwV 0 X.1.2.2.2.2 gL_dropTile_X6_dropTile rfl rfl rfl (by decide +kernel) ⟨Nat.le_of_ble_eq_true rfl, Nat.le_of_ble_eq_true rfl⟩) (ci := 6) rfl rfl rfl rfl hl rfl (Nat.le_of_ble_eq_true rfl) dL_dropTile_3 ⟨Nat.le_of_ble_eq_true rfl, Nat.le_of_ble_eq_true rfl⟩) (fun E ce q9 u H locs h hw hce hcv hcl => ?_) (fun r_2 u H locs h hw => ?_)
  · obtain ⟨vX_5, rfl⟩ : ∃ z, z = u := ⟨_, rfl⟩
    obtain ⟨rfl, h⟩ := h
    refine x_catch1 X (0, 8, 11, 18) [] htab (by decide +kernel) (by decide) (by decide) kl18_L_dropTile hce hcv hcl ?_
    refine lv_astore_n (lv' := [(2, .ref q9), (0, .ref (XA.o aX)), (1, .ref aO)]) hx hb dL_dropTile_11 rfl hl (by decide) rfl (fun ls hl => ?_)
    refine lv_iconst (v := 1) hx hb dL_dropTile_12 (by decide) ?_
    exact e_i (w1 := (fun (u : XV × OV) => (xW t aX u.1 ++ (oW t aO u.2)))) X (vX_5, vO) hw h dL_dropTile_13
  obtain ⟨vX_1, rfl⟩ : ∃ z, z = u := ⟨_, rfl⟩
  refine lv_i2l (v := Int32.toInt64 r_2) hx hb dL_dropTile_6 rfl ?_
  refine lv_topl (fun f_3 ef_3 => ?_)
  replace h := h f_3 ef_3
  obtain ⟨o_4, eo_4⟩ : ∃ z : Nat → Int64, z = vp_updL vO 0 f_3 := ⟨_, rfl⟩
  replace h := h o_4 eo_4
  refine r_last (ws' := (xW t aX vX_1 ++ (oW t aO o_4))) X hw 61 rfl (vpl rfl) (by subst eo_4; rfl) dL_dropTile_7 (fun H locs hw => ?_)
  refine lv_goto (tgt := 14) hx hb dL_dropTile_8 (by decide) ?_
  refine lv_iconst (v := 0) hx hb dL_dropTile_14 (by decide) ?_
  exact e_i (w1 := (fun (u : XV × OV) => (xW t aX u.1 ++ (oW t aO u.2)))) X (vX_1, o_4) hw h dL_dropTile_15
/-! L_setRule -/
theorem kl13_L_setRule : Cond.classLink RL 13 "java/lang/IllegalArgumentException" ∈ wsL_setRule := List.mem_of_getElem? (i := 1) rfl
def wp_L_setRule (vX : XV) (vO : OV) (p1 : Int32) (Q : Int32 → XV → OV → Prop) : Prop := wp_X6_setRule vX p1 (fun (r_2 : Int32) (vX_1 : XV) => ∀ f_3 : Int64, f_3 = (Int32.toInt64 r_2) → ∀ o_4 : Nat → Int64, o_4 = vp_updL vO 0 f_3 → Q 0 vX_1 o_4) (fun (E : String) (vX_5 : XV) => (E = "java/lang/IllegalArgumentException" ∧ Q 1 vX_5 vO))
set_option maxHeartbeats 4000000 in
set_option maxRecDepth 100000 in
theorem c_L_setRule (l : Launch) (D : va_G) (t : T3) (aX : XA) (aO : Nat) (vX : XV) (vO : OV) (p1 : Int32) (Q : Int32 → XV → OV → Prop) (hfl : l.stackTraces = false) (h : wp_L_setRule vX vO p1 Q) : Ct l yL_setRule wsL_setRule 7 124 1 6 [.ref (XA.o aX), .int p1, .ref aO] D t (xW t aX vX ++ (oW t aO vO)) (fun sz => Qi D (xW t aX vX ++ (oW t aO vO)) (fun (u : XV × OV) => (xW t aX u.1 ++ (oW t aO u.2))) (fun (r : Int32) (u : XV × OV) => Q r u.1 u.2) sz) := by
  refine Ct.ofW (Qf := fun _ A => va_Qi (fun (r : Int32) (u : XV × OV) => Q r u.1 u.2) (B1 D (fun (u : XV × OV) => (xW t aX u.1 ++ (oW t aO u.2))) A) A) cL_setRule 4 (some .int) [(0, 9, 12, 13)] (by decide) rfl (Nat.le_of_ble_eq_true rfl) ?_
  intro p e s m below meth c A ls htab X hw hl
  generalize ([.ref (XA.o aX), .int p1, .ref aO] : List Value).toArray = args at X ⊢
  have hl : lv_has ls 4 [(0, .ref (XA.o aX)), (1, .int p1), (2, .ref aO)] := hl
  have hx := X.1.1
  have hb := X.1.2.1
  refine lv_aload_n hx hb dL_setRule_0 rfl (lv_at hl 2 rfl) ?_
  refine lv_iconst (v := 0) hx hb dL_setRule_1 (by decide) ?_
  refine lv_aload_n hx hb dL_setRule_2 rfl (lv_at hl 0 rfl) ?_
  refine lv_iload_n hx hb dL_setRule_3 rfl (lv_at hl 1 rfl) ?_
  refine x_ci X hw (pm_l pm_0) (wn := fun (u : XV) => (xW t aX u ++ (oW t aO vO))) (fun u => (pm_l pm_0).symm) (x_runV X hw (c_X6_setRule l D t aX vX p1 _ _ hfl h) (pm_l pm_0) (cwV 1 X.1.2.2.2.2 gL_setRule_X6_setRule rfl rfl rfl (by decide +kernel) ⟨Nat.le_of_ble_eq_true rfl, Nat.le_of_ble_eq_true rfl⟩) (ci := 6) rfl rfl rfl rfl hl rfl (Nat.le_of_ble_eq_true rfl) dL_setRule_4 ⟨Nat.le_of_ble_eq_true rfl, Nat.le_of_ble_eq_true rfl⟩) (fun E ce q9 u H locs h hw hce hcv hcl => ?_) (fun r_2 u H locs h hw => ?_)
  · obtain ⟨vX_5, rfl⟩ : ∃ z, z = u := ⟨_, rfl⟩
    obtain ⟨rfl, h⟩ := h
    refine x_catch1 X (0, 9, 12, 13) [] htab (by decide +kernel) (by decide) (by decide) kl13_L_setRule hce hcv hcl ?_
    refine lv_astore_n (lv' := [(3, .ref q9), (0, .ref (XA.o aX)), (1, .int p1), (2, .ref aO)]) hx hb dL_setRule_12 rfl hl (by decide) rfl (fun ls hl => ?_)
    refine lv_iconst (v := 1) hx hb dL_setRule_13 (by decide) ?_
    exact e_i (w1 := (fun (u : XV × OV) => (xW t aX u.1 ++ (oW t aO u.2)))) X (vX_5, vO) hw h dL_setRule_14
  obtain ⟨vX_1, rfl⟩ : ∃ z, z = u := ⟨_, rfl⟩
  refine lv_i2l (v := Int32.toInt64 r_2) hx hb dL_setRule_7 rfl ?_
  refine lv_topl (fun f_3 ef_3 => ?_)
  replace h := h f_3 ef_3
  obtain ⟨o_4, eo_4⟩ : ∃ z : Nat → Int64, z = vp_updL vO 0 f_3 := ⟨_, rfl⟩
  replace h := h o_4 eo_4
  refine r_last (ws' := (xW t aX vX_1 ++ (oW t aO o_4))) X hw 61 rfl (vpl rfl) (by subst eo_4; rfl) dL_setRule_8 (fun H locs hw => ?_)
  refine lv_goto (tgt := 15) hx hb dL_setRule_9 (by decide) ?_
  refine lv_iconst (v := 0) hx hb dL_setRule_15 (by decide) ?_
  exact e_i (w1 := (fun (u : XV × OV) => (xW t aX u.1 ++ (oW t aO u.2)))) X (vX_1, o_4) hw h dL_setRule_16
/-! L_cut -/
theorem kl13_L_cut : Cond.classLink RL 13 "java/lang/IllegalArgumentException" ∈ wsL_cut := List.mem_of_getElem? (i := 1) rfl
def wp_L_cut (vX : XV) (vO : OV) (p1 : Int32) (p2 : Int32) (Q : Int32 → XV → OV → Prop) : Prop := wp_X6_cut vX p1 p2 (fun (r_2 : Int32) (vX_1 : XV) => ∀ f_3 : Int64, f_3 = (Int32.toInt64 r_2) → ∀ o_4 : Nat → Int64, o_4 = vp_updL vO 0 f_3 → Q 0 vX_1 o_4) (fun (E : String) (vX_5 : XV) => (E = "java/lang/IllegalArgumentException" ∧ Q 1 vX_5 vO))
set_option maxHeartbeats 4000000 in
set_option maxRecDepth 100000 in
theorem c_L_cut (l : Launch) (D : va_G) (t : T3) (aX : XA) (aO : Nat) (vX : XV) (vO : OV) (p1 : Int32) (p2 : Int32) (Q : Int32 → XV → OV → Prop) (hfl : l.stackTraces = false) (h : wp_L_cut vX vO p1 p2 Q) : Ct l yL_cut wsL_cut 7 124 1 6 [.ref (XA.o aX), .int p1, .int p2, .ref aO] D t (xW t aX vX ++ (oW t aO vO)) (fun sz => Qi D (xW t aX vX ++ (oW t aO vO)) (fun (u : XV × OV) => (xW t aX u.1 ++ (oW t aO u.2))) (fun (r : Int32) (u : XV × OV) => Q r u.1 u.2) sz) := by
  refine Ct.ofW (Qf := fun _ A => va_Qi (fun (r : Int32) (u : XV × OV) => Q r u.1 u.2) (B1 D (fun (u : XV × OV) => (xW t aX u.1 ++ (oW t aO u.2))) A) A) cL_cut 5 (some .int) [(0, 10, 13, 13)] (by decide) rfl (Nat.le_of_ble_eq_true rfl) ?_
  intro p e s m below meth c A ls htab X hw hl
  generalize ([.ref (XA.o aX), .int p1, .int p2, .ref aO] : List Value).toArray = args at X ⊢
  have hl : lv_has ls 5 [(0, .ref (XA.o aX)), (1, .int p1), (2, .int p2), (3, .ref aO)] := hl
  have hx := X.1.1
  have hb := X.1.2.1
  refine lv_aload_n hx hb dL_cut_0 rfl (lv_at hl 3 rfl) ?_
  refine lv_iconst (v := 0) hx hb dL_cut_1 (by decide) ?_
  refine lv_aload_n hx hb dL_cut_2 rfl (lv_at hl 0 rfl) ?_
  refine lv_iload_n hx hb dL_cut_3 rfl (lv_at hl 1 rfl) ?_
  refine lv_iload_n hx hb dL_cut_4 rfl (lv_at hl 2 rfl) ?_
  refine x_ci X hw (pm_l pm_0) (wn := fun (u : XV) => (xW t aX u ++ (oW t aO vO))) (fun u => (pm_l pm_0).symm) (x_runV X hw (c_X6_cut l D t aX vX p1 p2 _ _ hfl h) (pm_l pm_0) (cwV 2 X.1.2.2.2.2 gL_cut_X6_cut rfl rfl rfl (by decide +kernel) ⟨Nat.le_of_ble_eq_true rfl, Nat.le_of_ble_eq_true rfl⟩) (ci := 6) rfl rfl rfl rfl hl rfl (Nat.le_of_ble_eq_true rfl) dL_cut_5 ⟨Nat.le_of_ble_eq_true rfl, Nat.le_of_ble_eq_true rfl⟩) (fun E ce q9 u H locs h hw hce hcv hcl => ?_) (fun r_2 u H locs h hw => ?_)
  · obtain ⟨vX_5, rfl⟩ : ∃ z, z = u := ⟨_, rfl⟩
    obtain ⟨rfl, h⟩ := h
    refine x_catch1 X (0, 10, 13, 13) [] htab (by decide +kernel) (by decide) (by decide) kl13_L_cut hce hcv hcl ?_
    refine lv_astore (lv' := [(4, .ref q9), (0, .ref (XA.o aX)), (1, .int p1), (2, .int p2), (3, .ref aO)]) hx hb dL_cut_13 hl (by decide) rfl (fun ls hl => ?_)
    refine lv_iconst (v := 1) hx hb dL_cut_15 (by decide) ?_
    exact e_i (w1 := (fun (u : XV × OV) => (xW t aX u.1 ++ (oW t aO u.2)))) X (vX_5, vO) hw h dL_cut_16
  obtain ⟨vX_1, rfl⟩ : ∃ z, z = u := ⟨_, rfl⟩
  refine lv_i2l (v := Int32.toInt64 r_2) hx hb dL_cut_8 rfl ?_
  refine lv_topl (fun f_3 ef_3 => ?_)
  replace h := h f_3 ef_3
  obtain ⟨o_4, eo_4⟩ : ∃ z : Nat → Int64, z = vp_updL vO 0 f_3 := ⟨_, rfl⟩
  replace h := h o_4 eo_4
  refine r_last (ws' := (xW t aX vX_1 ++ (oW t aO o_4))) X hw 61 rfl (vpl rfl) (by subst eo_4; rfl) dL_cut_9 (fun H locs hw => ?_)
  refine lv_goto (tgt := 17) hx hb dL_cut_10 (by decide) ?_
  refine lv_iconst (v := 0) hx hb dL_cut_17 (by decide) ?_
  exact e_i (w1 := (fun (u : XV × OV) => (xW t aX u.1 ++ (oW t aO u.2)))) X (vX_1, o_4) hw h dL_cut_18
/-! L_lay -/
theorem kl34_L_lay : Cond.classLink RL 34 "java/lang/IndexOutOfBoundsException" ∈ wsL_lay := List.mem_of_getElem? (i := 1) rfl
theorem kl18_L_lay : Cond.classLink RL 18 "java/lang/IllegalStateException" ∈ wsL_lay := List.mem_of_getElem? (i := 2) rfl
def wp_L_lay (vX : XV) (vO : OV) (p1 : Int32) (p2 : Int32) (Q : Int32 → XV → OV → Prop) : Prop := wp_X6_lay vX p1 p2 (fun (r_2 : Int32) (vX_1 : XV) => ∀ f_3 : Int64, f_3 = (Int32.toInt64 r_2) → ∀ o_4 : Nat → Int64, o_4 = vp_updL vO 0 f_3 → Q 0 vX_1 o_4) (fun (E : String) (vX_5 : XV) => (E = "java/lang/IndexOutOfBoundsException" ∧ Q 1 vX_5 vO) ∨ (E = "java/lang/IllegalStateException" ∧ Q 2 vX_5 vO))
set_option maxHeartbeats 4000000 in
set_option maxRecDepth 100000 in
theorem c_L_lay (l : Launch) (D : va_G) (t : T3) (aX : XA) (aO : Nat) (vX : XV) (vO : OV) (p1 : Int32) (p2 : Int32) (Q : Int32 → XV → OV → Prop) (hfl : l.stackTraces = false) (h : wp_L_lay vX vO p1 p2 Q) : Ct l yL_lay wsL_lay 9 165 3 18 [.ref (XA.o aX), .int p1, .int p2, .ref aO] D t (xW t aX vX ++ (oW t aO vO)) (fun sz => Qi D (xW t aX vX ++ (oW t aO vO)) (fun (u : XV × OV) => (xW t aX u.1 ++ (oW t aO u.2))) (fun (r : Int32) (u : XV × OV) => Q r u.1 u.2) sz) := by
  refine Ct.ofW (Qf := fun _ A => va_Qi (fun (r : Int32) (u : XV × OV) => Q r u.1 u.2) (B1 D (fun (u : XV × OV) => (xW t aX u.1 ++ (oW t aO u.2))) A) A) cL_lay 5 (some .int) [(0, 10, 13, 34), (0, 10, 17, 18)] (by decide) rfl (Nat.le_of_ble_eq_true rfl) ?_
  intro p e s m below meth c A ls htab X hw hl
  generalize ([.ref (XA.o aX), .int p1, .int p2, .ref aO] : List Value).toArray = args at X ⊢
  have hl : lv_has ls 5 [(0, .ref (XA.o aX)), (1, .int p1), (2, .int p2), (3, .ref aO)] := hl
  have hx := X.1.1
  have hb := X.1.2.1
  refine lv_aload_n hx hb dL_lay_0 rfl (lv_at hl 3 rfl) ?_
  refine lv_iconst (v := 0) hx hb dL_lay_1 (by decide) ?_
  refine lv_aload_n hx hb dL_lay_2 rfl (lv_at hl 0 rfl) ?_
  refine lv_iload_n hx hb dL_lay_3 rfl (lv_at hl 1 rfl) ?_
  refine lv_iload_n hx hb dL_lay_4 rfl (lv_at hl 2 rfl) ?_
  refine x_ci X hw (pm_l pm_0) (wn := fun (u : XV) => (xW t aX u ++ (oW t aO vO))) (fun u => (pm_l pm_0).symm) (x_runV X hw (c_X6_lay l D t aX vX p1 p2 _ _ hfl h) (pm_l pm_0) (cwV 2 X.1.2.2.2.2 gL_lay_X6_lay rfl rfl rfl (by decide +kernel) ⟨Nat.le_of_ble_eq_true rfl, Nat.le_of_ble_eq_true rfl⟩) (ci := 6) rfl rfl rfl rfl hl rfl (Nat.le_of_ble_eq_true rfl) dL_lay_5 ⟨Nat.le_of_ble_eq_true rfl, Nat.le_of_ble_eq_true rfl⟩) (fun E ce q9 u H locs h hw hce hcv hcl => ?_) (fun r_2 u H locs h hw => ?_)
  · obtain ⟨vX_5, rfl⟩ : ∃ z, z = u := ⟨_, rfl⟩
    rcases h with ⟨rfl, h⟩ | ⟨rfl, h⟩
    · refine x_catch1 X (0, 10, 13, 34) [(0, 10, 17, 18)] htab (by decide +kernel) (by decide) (by decide) kl34_L_lay hce hcv hcl ?_
      refine lv_astore (lv' := [(4, .ref q9), (0, .ref (XA.o aX)), (1, .int p1), (2, .int p2), (3, .ref aO)]) hx hb dL_lay_13 hl (by decide) rfl (fun ls hl => ?_)
      refine lv_iconst (v := 1) hx hb dL_lay_15 (by decide) ?_
      exact e_i (w1 := (fun (u : XV × OV) => (xW t aX u.1 ++ (oW t aO u.2)))) X (vX_5, vO) hw h dL_lay_16
    · refine x_catch2 X (0, 10, 13, 34) (0, 10, 17, 18) [] htab (E0 := "java/lang/IndexOutOfBoundsException") (by decide +kernel) (by decide +kernel) (by decide) kl34_L_lay (by decide) (by decide) kl18_L_lay hce hcv hcl ?_
      refine lv_astore (lv' := [(4, .ref q9), (0, .ref (XA.o aX)), (1, .int p1), (2, .int p2), (3, .ref aO)]) hx hb dL_lay_17 hl (by decide) rfl (fun ls hl => ?_)
      refine lv_iconst (v := 2) hx hb dL_lay_19 (by decide) ?_
      exact e_i (w1 := (fun (u : XV × OV) => (xW t aX u.1 ++ (oW t aO u.2)))) X (vX_5, vO) hw h dL_lay_20
  obtain ⟨vX_1, rfl⟩ : ∃ z, z = u := ⟨_, rfl⟩
  refine lv_i2l (v := Int32.toInt64 r_2) hx hb dL_lay_8 rfl ?_
  refine lv_topl (fun f_3 ef_3 => ?_)
  replace h := h f_3 ef_3
  obtain ⟨o_4, eo_4⟩ : ∃ z : Nat → Int64, z = vp_updL vO 0 f_3 := ⟨_, rfl⟩
  replace h := h o_4 eo_4
  refine r_last (ws' := (xW t aX vX_1 ++ (oW t aO o_4))) X hw 61 rfl (vpl rfl) (by subst eo_4; rfl) dL_lay_9 (fun H locs hw => ?_)
  refine lv_goto (tgt := 21) hx hb dL_lay_10 (by decide) ?_
  refine lv_iconst (v := 0) hx hb dL_lay_21 (by decide) ?_
  exact e_i (w1 := (fun (u : XV × OV) => (xW t aX u.1 ++ (oW t aO u.2)))) X (vX_1, o_4) hw h dL_lay_22
/-! L_take -/
theorem kl34_L_take : Cond.classLink RL 34 "java/lang/IndexOutOfBoundsException" ∈ wsL_take := List.mem_of_getElem? (i := 1) rfl
theorem kl18_L_take : Cond.classLink RL 18 "java/lang/IllegalStateException" ∈ wsL_take := List.mem_of_getElem? (i := 2) rfl
def wp_L_take (vX : XV) (vO : OV) (p1 : Int32) (Q : Int32 → XV → OV → Prop) : Prop := wp_X6_take vX p1 (fun (r_2 : Int32) (vX_1 : XV) => ∀ f_3 : Int64, f_3 = (Int32.toInt64 r_2) → ∀ o_4 : Nat → Int64, o_4 = vp_updL vO 0 f_3 → Q 0 vX_1 o_4) (fun (E : String) (vX_5 : XV) => (E = "java/lang/IndexOutOfBoundsException" ∧ Q 1 vX_5 vO) ∨ (E = "java/lang/IllegalStateException" ∧ Q 2 vX_5 vO))
set_option maxHeartbeats 4000000 in
set_option maxRecDepth 100000 in
theorem c_L_take (l : Launch) (D : va_G) (t : T3) (aX : XA) (aO : Nat) (vX : XV) (vO : OV) (p1 : Int32) (Q : Int32 → XV → OV → Prop) (hfl : l.stackTraces = false) (h : wp_L_take vX vO p1 Q) : Ct l yL_take wsL_take 8 143 2 12 [.ref (XA.o aX), .int p1, .ref aO] D t (xW t aX vX ++ (oW t aO vO)) (fun sz => Qi D (xW t aX vX ++ (oW t aO vO)) (fun (u : XV × OV) => (xW t aX u.1 ++ (oW t aO u.2))) (fun (r : Int32) (u : XV × OV) => Q r u.1 u.2) sz) := by
  refine Ct.ofW (Qf := fun _ A => va_Qi (fun (r : Int32) (u : XV × OV) => Q r u.1 u.2) (B1 D (fun (u : XV × OV) => (xW t aX u.1 ++ (oW t aO u.2))) A) A) cL_take 4 (some .int) [(0, 9, 12, 34), (0, 9, 15, 18)] (by decide) rfl (Nat.le_of_ble_eq_true rfl) ?_
  intro p e s m below meth c A ls htab X hw hl
  generalize ([.ref (XA.o aX), .int p1, .ref aO] : List Value).toArray = args at X ⊢
  have hl : lv_has ls 4 [(0, .ref (XA.o aX)), (1, .int p1), (2, .ref aO)] := hl
  have hx := X.1.1
  have hb := X.1.2.1
  refine lv_aload_n hx hb dL_take_0 rfl (lv_at hl 2 rfl) ?_
  refine lv_iconst (v := 0) hx hb dL_take_1 (by decide) ?_
  refine lv_aload_n hx hb dL_take_2 rfl (lv_at hl 0 rfl) ?_
  refine lv_iload_n hx hb dL_take_3 rfl (lv_at hl 1 rfl) ?_
  refine x_ci X hw (pm_l pm_0) (wn := fun (u : XV) => (xW t aX u ++ (oW t aO vO))) (fun u => (pm_l pm_0).symm) (x_runV X hw (c_X6_take l D t aX vX p1 _ _ hfl h) (pm_l pm_0) (cwV 1 X.1.2.2.2.2 gL_take_X6_take rfl rfl rfl (by decide +kernel) ⟨Nat.le_of_ble_eq_true rfl, Nat.le_of_ble_eq_true rfl⟩) (ci := 6) rfl rfl rfl rfl hl rfl (Nat.le_of_ble_eq_true rfl) dL_take_4 ⟨Nat.le_of_ble_eq_true rfl, Nat.le_of_ble_eq_true rfl⟩) (fun E ce q9 u H locs h hw hce hcv hcl => ?_) (fun r_2 u H locs h hw => ?_)
  · obtain ⟨vX_5, rfl⟩ : ∃ z, z = u := ⟨_, rfl⟩
    rcases h with ⟨rfl, h⟩ | ⟨rfl, h⟩
    · refine x_catch1 X (0, 9, 12, 34) [(0, 9, 15, 18)] htab (by decide +kernel) (by decide) (by decide) kl34_L_take hce hcv hcl ?_
      refine lv_astore_n (lv' := [(3, .ref q9), (0, .ref (XA.o aX)), (1, .int p1), (2, .ref aO)]) hx hb dL_take_12 rfl hl (by decide) rfl (fun ls hl => ?_)
      refine lv_iconst (v := 1) hx hb dL_take_13 (by decide) ?_
      exact e_i (w1 := (fun (u : XV × OV) => (xW t aX u.1 ++ (oW t aO u.2)))) X (vX_5, vO) hw h dL_take_14
    · refine x_catch2 X (0, 9, 12, 34) (0, 9, 15, 18) [] htab (E0 := "java/lang/IndexOutOfBoundsException") (by decide +kernel) (by decide +kernel) (by decide) kl34_L_take (by decide) (by decide) kl18_L_take hce hcv hcl ?_
      refine lv_astore_n (lv' := [(3, .ref q9), (0, .ref (XA.o aX)), (1, .int p1), (2, .ref aO)]) hx hb dL_take_15 rfl hl (by decide) rfl (fun ls hl => ?_)
      refine lv_iconst (v := 2) hx hb dL_take_16 (by decide) ?_
      exact e_i (w1 := (fun (u : XV × OV) => (xW t aX u.1 ++ (oW t aO u.2)))) X (vX_5, vO) hw h dL_take_17
  obtain ⟨vX_1, rfl⟩ : ∃ z, z = u := ⟨_, rfl⟩
  refine lv_i2l (v := Int32.toInt64 r_2) hx hb dL_take_7 rfl ?_
  refine lv_topl (fun f_3 ef_3 => ?_)
  replace h := h f_3 ef_3
  obtain ⟨o_4, eo_4⟩ : ∃ z : Nat → Int64, z = vp_updL vO 0 f_3 := ⟨_, rfl⟩
  replace h := h o_4 eo_4
  refine r_last (ws' := (xW t aX vX_1 ++ (oW t aO o_4))) X hw 61 rfl (vpl rfl) (by subst eo_4; rfl) dL_take_8 (fun H locs hw => ?_)
  refine lv_goto (tgt := 18) hx hb dL_take_9 (by decide) ?_
  refine lv_iconst (v := 0) hx hb dL_take_18 (by decide) ?_
  exact e_i (w1 := (fun (u : XV × OV) => (xW t aX u.1 ++ (oW t aO u.2)))) X (vX_1, o_4) hw h dL_take_19
/-! L_fix -/
theorem kl34_L_fix : Cond.classLink RL 34 "java/lang/IndexOutOfBoundsException" ∈ wsL_fix := List.mem_of_getElem? (i := 1) rfl
theorem kl18_L_fix : Cond.classLink RL 18 "java/lang/IllegalStateException" ∈ wsL_fix := List.mem_of_getElem? (i := 2) rfl
def wp_L_fix (vX : XV) (vO : OV) (p1 : Int32) (Q : Int32 → XV → OV → Prop) : Prop := wp_X6_fix vX p1 (fun (r_2 : Int32) (vX_1 : XV) => ∀ f_3 : Int64, f_3 = (Int32.toInt64 r_2) → ∀ o_4 : Nat → Int64, o_4 = vp_updL vO 0 f_3 → Q 0 vX_1 o_4) (fun (E : String) (vX_5 : XV) => (E = "java/lang/IndexOutOfBoundsException" ∧ Q 1 vX_5 vO) ∨ (E = "java/lang/IllegalStateException" ∧ Q 2 vX_5 vO))
set_option maxHeartbeats 4000000 in
set_option maxRecDepth 100000 in
theorem c_L_fix (l : Launch) (D : va_G) (t : T3) (aX : XA) (aO : Nat) (vX : XV) (vO : OV) (p1 : Int32) (Q : Int32 → XV → OV → Prop) (hfl : l.stackTraces = false) (h : wp_L_fix vX vO p1 Q) : Ct l yL_fix wsL_fix 8 142 2 12 [.ref (XA.o aX), .int p1, .ref aO] D t (xW t aX vX ++ (oW t aO vO)) (fun sz => Qi D (xW t aX vX ++ (oW t aO vO)) (fun (u : XV × OV) => (xW t aX u.1 ++ (oW t aO u.2))) (fun (r : Int32) (u : XV × OV) => Q r u.1 u.2) sz) := by
  refine Ct.ofW (Qf := fun _ A => va_Qi (fun (r : Int32) (u : XV × OV) => Q r u.1 u.2) (B1 D (fun (u : XV × OV) => (xW t aX u.1 ++ (oW t aO u.2))) A) A) cL_fix 4 (some .int) [(0, 9, 12, 34), (0, 9, 15, 18)] (by decide) rfl (Nat.le_of_ble_eq_true rfl) ?_
  intro p e s m below meth c A ls htab X hw hl
  generalize ([.ref (XA.o aX), .int p1, .ref aO] : List Value).toArray = args at X ⊢
  have hl : lv_has ls 4 [(0, .ref (XA.o aX)), (1, .int p1), (2, .ref aO)] := hl
  have hx := X.1.1
  have hb := X.1.2.1
  refine lv_aload_n hx hb dL_fix_0 rfl (lv_at hl 2 rfl) ?_
  refine lv_iconst (v := 0) hx hb dL_fix_1 (by decide) ?_
  refine lv_aload_n hx hb dL_fix_2 rfl (lv_at hl 0 rfl) ?_
  refine lv_iload_n hx hb dL_fix_3 rfl (lv_at hl 1 rfl) ?_
  refine x_ci X hw (pm_l pm_0) (wn := fun (u : XV) => (xW t aX u ++ (oW t aO vO))) (fun u => (pm_l pm_0).symm) (x_runV X hw (c_X6_fix l D t aX vX p1 _ _ hfl h) (pm_l pm_0) (cwV 1 X.1.2.2.2.2 gL_fix_X6_fix rfl rfl rfl (by decide +kernel) ⟨Nat.le_of_ble_eq_true rfl, Nat.le_of_ble_eq_true rfl⟩) (ci := 6) rfl rfl rfl rfl hl rfl (Nat.le_of_ble_eq_true rfl) dL_fix_4 ⟨Nat.le_of_ble_eq_true rfl, Nat.le_of_ble_eq_true rfl⟩) (fun E ce q9 u H locs h hw hce hcv hcl => ?_) (fun r_2 u H locs h hw => ?_)
  · obtain ⟨vX_5, rfl⟩ : ∃ z, z = u := ⟨_, rfl⟩
    rcases h with ⟨rfl, h⟩ | ⟨rfl, h⟩
    · refine x_catch1 X (0, 9, 12, 34) [(0, 9, 15, 18)] htab (by decide +kernel) (by decide) (by decide) kl34_L_fix hce hcv hcl ?_
      refine lv_astore_n (lv' := [(3, .ref q9), (0, .ref (XA.o aX)), (1, .int p1), (2, .ref aO)]) hx hb dL_fix_12 rfl hl (by decide) rfl (fun ls hl => ?_)
      refine lv_iconst (v := 1) hx hb dL_fix_13 (by decide) ?_
      exact e_i (w1 := (fun (u : XV × OV) => (xW t aX u.1 ++ (oW t aO u.2)))) X (vX_5, vO) hw h dL_fix_14
    · refine x_catch2 X (0, 9, 12, 34) (0, 9, 15, 18) [] htab (E0 := "java/lang/IndexOutOfBoundsException") (by decide +kernel) (by decide +kernel) (by decide) kl34_L_fix (by decide) (by decide) kl18_L_fix hce hcv hcl ?_
      refine lv_astore_n (lv' := [(3, .ref q9), (0, .ref (XA.o aX)), (1, .int p1), (2, .ref aO)]) hx hb dL_fix_15 rfl hl (by decide) rfl (fun ls hl => ?_)
      refine lv_iconst (v := 2) hx hb dL_fix_16 (by decide) ?_
      exact e_i (w1 := (fun (u : XV × OV) => (xW t aX u.1 ++ (oW t aO u.2)))) X (vX_5, vO) hw h dL_fix_17
  obtain ⟨vX_1, rfl⟩ : ∃ z, z = u := ⟨_, rfl⟩
  refine lv_i2l (v := Int32.toInt64 r_2) hx hb dL_fix_7 rfl ?_
  refine lv_topl (fun f_3 ef_3 => ?_)
  replace h := h f_3 ef_3
  obtain ⟨o_4, eo_4⟩ : ∃ z : Nat → Int64, z = vp_updL vO 0 f_3 := ⟨_, rfl⟩
  replace h := h o_4 eo_4
  refine r_last (ws' := (xW t aX vX_1 ++ (oW t aO o_4))) X hw 61 rfl (vpl rfl) (by subst eo_4; rfl) dL_fix_8 (fun H locs hw => ?_)
  refine lv_goto (tgt := 18) hx hb dL_fix_9 (by decide) ?_
  refine lv_iconst (v := 0) hx hb dL_fix_18 (by decide) ?_
  exact e_i (w1 := (fun (u : XV × OV) => (xW t aX u.1 ++ (oW t aO u.2)))) X (vX_1, o_4) hw h dL_fix_19
/-! L_solve -/
theorem kl18_L_solve : Cond.classLink RL 18 "java/lang/IllegalStateException" ∈ wsL_solve := List.mem_of_getElem? (i := 1) rfl
def wp_L_solve (vX : XV) (vO : OV) (Q : Int32 → XV → OV → Prop) : Prop := wp_X6_solve vX  (fun (r_2 : Int32) (vX_1 : XV) => ∀ f_3 : Int64, f_3 = (Int32.toInt64 r_2) → ∀ o_4 : Nat → Int64, o_4 = vp_updL vO 0 f_3 → Q 0 vX_1 o_4) (fun (E : String) (vX_5 : XV) => (E = "java/lang/IllegalStateException" ∧ Q 1 vX_5 vO))
set_option maxHeartbeats 4000000 in
set_option maxRecDepth 100000 in
theorem c_L_solve (l : Launch) (D : va_G) (t : T3) (aX : XA) (aO : Nat) (vX : XV) (vO : OV) (Q : Int32 → XV → OV → Prop) (hfl : l.stackTraces = false) (h : wp_L_solve vX vO Q) : Ct l yL_solve wsL_solve 82 1650 1 6 [.ref (XA.o aX), .ref aO] D t (xW t aX vX ++ (oW t aO vO)) (fun sz => Qi D (xW t aX vX ++ (oW t aO vO)) (fun (u : XV × OV) => (xW t aX u.1 ++ (oW t aO u.2))) (fun (r : Int32) (u : XV × OV) => Q r u.1 u.2) sz) := by
  refine Ct.ofW (Qf := fun _ A => va_Qi (fun (r : Int32) (u : XV × OV) => Q r u.1 u.2) (B1 D (fun (u : XV × OV) => (xW t aX u.1 ++ (oW t aO u.2))) A) A) cL_solve 3 (some .int) [(0, 8, 11, 18)] (by decide) rfl (Nat.le_of_ble_eq_true rfl) ?_
  intro p e s m below meth c A ls htab X hw hl
  generalize ([.ref (XA.o aX), .ref aO] : List Value).toArray = args at X ⊢
  have hl : lv_has ls 3 [(0, .ref (XA.o aX)), (1, .ref aO)] := hl
  have hx := X.1.1
  have hb := X.1.2.1
  refine lv_aload_n hx hb dL_solve_0 rfl (lv_at hl 1 rfl) ?_
  refine lv_iconst (v := 0) hx hb dL_solve_1 (by decide) ?_
  refine lv_aload_n hx hb dL_solve_2 rfl (lv_at hl 0 rfl) ?_
  refine x_ci X hw (pm_l pm_0) (wn := fun (u : XV) => (xW t aX u ++ (oW t aO vO))) (fun u => (pm_l pm_0).symm) (x_runV X hw (c_X6_solve l D t aX vX _ _ hfl h) (pm_l pm_0) (cwV 0 X.1.2.2.2.2 gL_solve_X6_solve rfl rfl rfl (by decide +kernel) ⟨Nat.le_of_ble_eq_true rfl, Nat.le_of_ble_eq_true rfl⟩) (ci := 6) rfl rfl rfl rfl hl rfl (Nat.le_of_ble_eq_true rfl) dL_solve_3 ⟨Nat.le_of_ble_eq_true rfl, Nat.le_of_ble_eq_true rfl⟩) (fun E ce q9 u H locs h hw hce hcv hcl => ?_) (fun r_2 u H locs h hw => ?_)
  · obtain ⟨vX_5, rfl⟩ : ∃ z, z = u := ⟨_, rfl⟩
    obtain ⟨rfl, h⟩ := h
    refine x_catch1 X (0, 8, 11, 18) [] htab (by decide +kernel) (by decide) (by decide) kl18_L_solve hce hcv hcl ?_
    refine lv_astore_n (lv' := [(2, .ref q9), (0, .ref (XA.o aX)), (1, .ref aO)]) hx hb dL_solve_11 rfl hl (by decide) rfl (fun ls hl => ?_)
    refine lv_iconst (v := 1) hx hb dL_solve_12 (by decide) ?_
    exact e_i (w1 := (fun (u : XV × OV) => (xW t aX u.1 ++ (oW t aO u.2)))) X (vX_5, vO) hw h dL_solve_13
  obtain ⟨vX_1, rfl⟩ : ∃ z, z = u := ⟨_, rfl⟩
  refine lv_i2l (v := Int32.toInt64 r_2) hx hb dL_solve_6 rfl ?_
  refine lv_topl (fun f_3 ef_3 => ?_)
  replace h := h f_3 ef_3
  obtain ⟨o_4, eo_4⟩ : ∃ z : Nat → Int64, z = vp_updL vO 0 f_3 := ⟨_, rfl⟩
  replace h := h o_4 eo_4
  refine r_last (ws' := (xW t aX vX_1 ++ (oW t aO o_4))) X hw 61 rfl (vpl rfl) (by subst eo_4; rfl) dL_solve_7 (fun H locs hw => ?_)
  refine lv_goto (tgt := 14) hx hb dL_solve_8 (by decide) ?_
  refine lv_iconst (v := 0) hx hb dL_solve_14 (by decide) ?_
  exact e_i (w1 := (fun (u : XV × OV) => (xW t aX u.1 ++ (oW t aO u.2)))) X (vX_1, o_4) hw h dL_solve_15
/-! L_append -/
theorem kl13_L_append : Cond.classLink RL 13 "java/lang/IllegalArgumentException" ∈ wsL_append := List.mem_of_getElem? (i := 1) rfl
theorem kl18_L_append : Cond.classLink RL 18 "java/lang/IllegalStateException" ∈ wsL_append := List.mem_of_getElem? (i := 2) rfl
def wp_L_append (vX : XV) (vO : OV) (p1 : Int32) (Q : Int32 → XV → OV → Prop) : Prop := wp_X6_append vX p1 (fun (r_2 : Int32) (vX_1 : XV) => ∀ f_3 : Int64, f_3 = (Int32.toInt64 r_2) → ∀ o_4 : Nat → Int64, o_4 = vp_updL vO 0 f_3 → Q 0 vX_1 o_4) (fun (E : String) (vX_5 : XV) => (E = "java/lang/IllegalArgumentException" ∧ Q 1 vX_5 vO) ∨ (E = "java/lang/IllegalStateException" ∧ Q 2 vX_5 vO))
set_option maxHeartbeats 4000000 in
set_option maxRecDepth 100000 in
theorem c_L_append (l : Launch) (D : va_G) (t : T3) (aX : XA) (aO : Nat) (vX : XV) (vO : OV) (p1 : Int32) (Q : Int32 → XV → OV → Prop) (hfl : l.stackTraces = false) (h : wp_L_append vX vO p1 Q) : Ct l yL_append wsL_append 7 121 1 6 [.ref (XA.o aX), .int p1, .ref aO] D t (xW t aX vX ++ (oW t aO vO)) (fun sz => Qi D (xW t aX vX ++ (oW t aO vO)) (fun (u : XV × OV) => (xW t aX u.1 ++ (oW t aO u.2))) (fun (r : Int32) (u : XV × OV) => Q r u.1 u.2) sz) := by
  refine Ct.ofW (Qf := fun _ A => va_Qi (fun (r : Int32) (u : XV × OV) => Q r u.1 u.2) (B1 D (fun (u : XV × OV) => (xW t aX u.1 ++ (oW t aO u.2))) A) A) cL_append 4 (some .int) [(0, 9, 12, 13), (0, 9, 15, 18)] (by decide) rfl (Nat.le_of_ble_eq_true rfl) ?_
  intro p e s m below meth c A ls htab X hw hl
  generalize ([.ref (XA.o aX), .int p1, .ref aO] : List Value).toArray = args at X ⊢
  have hl : lv_has ls 4 [(0, .ref (XA.o aX)), (1, .int p1), (2, .ref aO)] := hl
  have hx := X.1.1
  have hb := X.1.2.1
  refine lv_aload_n hx hb dL_append_0 rfl (lv_at hl 2 rfl) ?_
  refine lv_iconst (v := 0) hx hb dL_append_1 (by decide) ?_
  refine lv_aload_n hx hb dL_append_2 rfl (lv_at hl 0 rfl) ?_
  refine lv_iload_n hx hb dL_append_3 rfl (lv_at hl 1 rfl) ?_
  refine x_ci X hw (pm_l pm_0) (wn := fun (u : XV) => (xW t aX u ++ (oW t aO vO))) (fun u => (pm_l pm_0).symm) (x_runV X hw (c_X6_append l D t aX vX p1 _ _ hfl h) (pm_l pm_0) (cwV 1 X.1.2.2.2.2 gL_append_X6_append rfl rfl rfl (by decide +kernel) ⟨Nat.le_of_ble_eq_true rfl, Nat.le_of_ble_eq_true rfl⟩) (ci := 6) rfl rfl rfl rfl hl rfl (Nat.le_of_ble_eq_true rfl) dL_append_4 ⟨Nat.le_of_ble_eq_true rfl, Nat.le_of_ble_eq_true rfl⟩) (fun E ce q9 u H locs h hw hce hcv hcl => ?_) (fun r_2 u H locs h hw => ?_)
  · obtain ⟨vX_5, rfl⟩ : ∃ z, z = u := ⟨_, rfl⟩
    rcases h with ⟨rfl, h⟩ | ⟨rfl, h⟩
    · refine x_catch1 X (0, 9, 12, 13) [(0, 9, 15, 18)] htab (by decide +kernel) (by decide) (by decide) kl13_L_append hce hcv hcl ?_
      refine lv_astore_n (lv' := [(3, .ref q9), (0, .ref (XA.o aX)), (1, .int p1), (2, .ref aO)]) hx hb dL_append_12 rfl hl (by decide) rfl (fun ls hl => ?_)
      refine lv_iconst (v := 1) hx hb dL_append_13 (by decide) ?_
      exact e_i (w1 := (fun (u : XV × OV) => (xW t aX u.1 ++ (oW t aO u.2)))) X (vX_5, vO) hw h dL_append_14
    · refine x_catch2 X (0, 9, 12, 13) (0, 9, 15, 18) [] htab (E0 := "java/lang/IllegalArgumentException") (by decide +kernel) (by decide +kernel) (by decide) kl13_L_append (by decide) (by decide) kl18_L_append hce hcv hcl ?_
      refine lv_astore_n (lv' := [(3, .ref q9), (0, .ref (XA.o aX)), (1, .int p1), (2, .ref aO)]) hx hb dL_append_15 rfl hl (by decide) rfl (fun ls hl => ?_)
      refine lv_iconst (v := 2) hx hb dL_append_16 (by decide) ?_
      exact e_i (w1 := (fun (u : XV × OV) => (xW t aX u.1 ++ (oW t aO u.2)))) X (vX_5, vO) hw h dL_append_17
  obtain ⟨vX_1, rfl⟩ : ∃ z, z = u := ⟨_, rfl⟩
  refine lv_i2l (v := Int32.toInt64 r_2) hx hb dL_append_7 rfl ?_
  refine lv_topl (fun f_3 ef_3 => ?_)
  replace h := h f_3 ef_3
  obtain ⟨o_4, eo_4⟩ : ∃ z : Nat → Int64, z = vp_updL vO 0 f_3 := ⟨_, rfl⟩
  replace h := h o_4 eo_4
  refine r_last (ws' := (xW t aX vX_1 ++ (oW t aO o_4))) X hw 61 rfl (vpl rfl) (by subst eo_4; rfl) dL_append_8 (fun H locs hw => ?_)
  refine lv_goto (tgt := 18) hx hb dL_append_9 (by decide) ?_
  refine lv_iconst (v := 0) hx hb dL_append_18 (by decide) ?_
  exact e_i (w1 := (fun (u : XV × OV) => (xW t aX u.1 ++ (oW t aO u.2)))) X (vX_1, o_4) hw h dL_append_19
/-! L_load -/
theorem kl13_L_load : Cond.classLink RL 13 "java/lang/IllegalArgumentException" ∈ wsL_load := List.mem_of_getElem? (i := 1) rfl
theorem kl18_L_load : Cond.classLink RL 18 "java/lang/IllegalStateException" ∈ wsL_load := List.mem_of_getElem? (i := 2) rfl
def wp_L_load (vX : XV) (vO : OV) (Q : Int32 → XV → OV → Prop) : Prop := wp_X6_load vX  (fun (r_2 : Int32) (vX_1 : XV) => ∀ f_3 : Int64, f_3 = (Int32.toInt64 r_2) → ∀ o_4 : Nat → Int64, o_4 = vp_updL vO 0 f_3 → Q 0 vX_1 o_4) (fun (E : String) (vX_5 : XV) => (E = "java/lang/IllegalArgumentException" ∧ Q 1 vX_5 vO) ∨ (E = "java/lang/IllegalStateException" ∧ Q 2 vX_5 vO))
set_option maxHeartbeats 4000000 in
set_option maxRecDepth 100000 in
theorem c_L_load (l : Launch) (D : va_G) (t : T3) (aX : XA) (aO : Nat) (vX : XV) (vO : OV) (Q : Int32 → XV → OV → Prop) (hfl : l.stackTraces = false) (h : wp_L_load vX vO Q) : Ct l yL_load wsL_load 7 123 1 6 [.ref (XA.o aX), .ref aO] D t (xW t aX vX ++ (oW t aO vO)) (fun sz => Qi D (xW t aX vX ++ (oW t aO vO)) (fun (u : XV × OV) => (xW t aX u.1 ++ (oW t aO u.2))) (fun (r : Int32) (u : XV × OV) => Q r u.1 u.2) sz) := by
  refine Ct.ofW (Qf := fun _ A => va_Qi (fun (r : Int32) (u : XV × OV) => Q r u.1 u.2) (B1 D (fun (u : XV × OV) => (xW t aX u.1 ++ (oW t aO u.2))) A) A) cL_load 3 (some .int) [(0, 8, 11, 13), (0, 8, 14, 18)] (by decide) rfl (Nat.le_of_ble_eq_true rfl) ?_
  intro p e s m below meth c A ls htab X hw hl
  generalize ([.ref (XA.o aX), .ref aO] : List Value).toArray = args at X ⊢
  have hl : lv_has ls 3 [(0, .ref (XA.o aX)), (1, .ref aO)] := hl
  have hx := X.1.1
  have hb := X.1.2.1
  refine lv_aload_n hx hb dL_load_0 rfl (lv_at hl 1 rfl) ?_
  refine lv_iconst (v := 0) hx hb dL_load_1 (by decide) ?_
  refine lv_aload_n hx hb dL_load_2 rfl (lv_at hl 0 rfl) ?_
  refine x_ci X hw (pm_l pm_0) (wn := fun (u : XV) => (xW t aX u ++ (oW t aO vO))) (fun u => (pm_l pm_0).symm) (x_runV X hw (c_X6_load l D t aX vX _ _ hfl h) (pm_l pm_0) (cwV 0 X.1.2.2.2.2 gL_load_X6_load rfl rfl rfl (by decide +kernel) ⟨Nat.le_of_ble_eq_true rfl, Nat.le_of_ble_eq_true rfl⟩) (ci := 6) rfl rfl rfl rfl hl rfl (Nat.le_of_ble_eq_true rfl) dL_load_3 ⟨Nat.le_of_ble_eq_true rfl, Nat.le_of_ble_eq_true rfl⟩) (fun E ce q9 u H locs h hw hce hcv hcl => ?_) (fun r_2 u H locs h hw => ?_)
  · obtain ⟨vX_5, rfl⟩ : ∃ z, z = u := ⟨_, rfl⟩
    rcases h with ⟨rfl, h⟩ | ⟨rfl, h⟩
    · refine x_catch1 X (0, 8, 11, 13) [(0, 8, 14, 18)] htab (by decide +kernel) (by decide) (by decide) kl13_L_load hce hcv hcl ?_
      refine lv_astore_n (lv' := [(2, .ref q9), (0, .ref (XA.o aX)), (1, .ref aO)]) hx hb dL_load_11 rfl hl (by decide) rfl (fun ls hl => ?_)
      refine lv_iconst (v := 1) hx hb dL_load_12 (by decide) ?_
      exact e_i (w1 := (fun (u : XV × OV) => (xW t aX u.1 ++ (oW t aO u.2)))) X (vX_5, vO) hw h dL_load_13
    · refine x_catch2 X (0, 8, 11, 13) (0, 8, 14, 18) [] htab (E0 := "java/lang/IllegalArgumentException") (by decide +kernel) (by decide +kernel) (by decide) kl13_L_load (by decide) (by decide) kl18_L_load hce hcv hcl ?_
      refine lv_astore_n (lv' := [(2, .ref q9), (0, .ref (XA.o aX)), (1, .ref aO)]) hx hb dL_load_14 rfl hl (by decide) rfl (fun ls hl => ?_)
      refine lv_iconst (v := 2) hx hb dL_load_15 (by decide) ?_
      exact e_i (w1 := (fun (u : XV × OV) => (xW t aX u.1 ++ (oW t aO u.2)))) X (vX_5, vO) hw h dL_load_16
  obtain ⟨vX_1, rfl⟩ : ∃ z, z = u := ⟨_, rfl⟩
  refine lv_i2l (v := Int32.toInt64 r_2) hx hb dL_load_6 rfl ?_
  refine lv_topl (fun f_3 ef_3 => ?_)
  replace h := h f_3 ef_3
  obtain ⟨o_4, eo_4⟩ : ∃ z : Nat → Int64, z = vp_updL vO 0 f_3 := ⟨_, rfl⟩
  replace h := h o_4 eo_4
  refine r_last (ws' := (xW t aX vX_1 ++ (oW t aO o_4))) X hw 61 rfl (vpl rfl) (by subst eo_4; rfl) dL_load_7 (fun H locs hw => ?_)
  refine lv_goto (tgt := 17) hx hb dL_load_8 (by decide) ?_
  refine lv_iconst (v := 0) hx hb dL_load_17 (by decide) ?_
  exact e_i (w1 := (fun (u : XV × OV) => (xW t aX u.1 ++ (oW t aO u.2)))) X (vX_1, o_4) hw h dL_load_18
/-! L_undo -/
theorem kl18_L_undo : Cond.classLink RL 18 "java/lang/IllegalStateException" ∈ wsL_undo := List.mem_of_getElem? (i := 1) rfl
def wp_L_undo (vX : XV) (vO : OV) (Q : Int32 → XV → OV → Prop) : Prop := wp_X6_undo vX  (fun (r_2 : Int32) (vX_1 : XV) => ∀ f_3 : Int64, f_3 = (Int32.toInt64 r_2) → ∀ o_4 : Nat → Int64, o_4 = vp_updL vO 0 f_3 → Q 0 vX_1 o_4) (fun (E : String) (vX_5 : XV) => (E = "java/lang/IllegalStateException" ∧ Q 1 vX_5 vO))
set_option maxHeartbeats 4000000 in
set_option maxRecDepth 100000 in
theorem c_L_undo (l : Launch) (D : va_G) (t : T3) (aX : XA) (aO : Nat) (vX : XV) (vO : OV) (Q : Int32 → XV → OV → Prop) (hfl : l.stackTraces = false) (h : wp_L_undo vX vO Q) : Ct l yL_undo wsL_undo 7 122 1 6 [.ref (XA.o aX), .ref aO] D t (xW t aX vX ++ (oW t aO vO)) (fun sz => Qi D (xW t aX vX ++ (oW t aO vO)) (fun (u : XV × OV) => (xW t aX u.1 ++ (oW t aO u.2))) (fun (r : Int32) (u : XV × OV) => Q r u.1 u.2) sz) := by
  refine Ct.ofW (Qf := fun _ A => va_Qi (fun (r : Int32) (u : XV × OV) => Q r u.1 u.2) (B1 D (fun (u : XV × OV) => (xW t aX u.1 ++ (oW t aO u.2))) A) A) cL_undo 3 (some .int) [(0, 8, 11, 18)] (by decide) rfl (Nat.le_of_ble_eq_true rfl) ?_
  intro p e s m below meth c A ls htab X hw hl
  generalize ([.ref (XA.o aX), .ref aO] : List Value).toArray = args at X ⊢
  have hl : lv_has ls 3 [(0, .ref (XA.o aX)), (1, .ref aO)] := hl
  have hx := X.1.1
  have hb := X.1.2.1
  refine lv_aload_n hx hb dL_undo_0 rfl (lv_at hl 1 rfl) ?_
  refine lv_iconst (v := 0) hx hb dL_undo_1 (by decide) ?_
  refine lv_aload_n hx hb dL_undo_2 rfl (lv_at hl 0 rfl) ?_
  refine x_ci X hw (pm_l pm_0) (wn := fun (u : XV) => (xW t aX u ++ (oW t aO vO))) (fun u => (pm_l pm_0).symm) (x_runV X hw (c_X6_undo l D t aX vX _ _ hfl h) (pm_l pm_0) (cwV 0 X.1.2.2.2.2 gL_undo_X6_undo rfl rfl rfl (by decide +kernel) ⟨Nat.le_of_ble_eq_true rfl, Nat.le_of_ble_eq_true rfl⟩) (ci := 6) rfl rfl rfl rfl hl rfl (Nat.le_of_ble_eq_true rfl) dL_undo_3 ⟨Nat.le_of_ble_eq_true rfl, Nat.le_of_ble_eq_true rfl⟩) (fun E ce q9 u H locs h hw hce hcv hcl => ?_) (fun r_2 u H locs h hw => ?_)
  · obtain ⟨vX_5, rfl⟩ : ∃ z, z = u := ⟨_, rfl⟩
    obtain ⟨rfl, h⟩ := h
    refine x_catch1 X (0, 8, 11, 18) [] htab (by decide +kernel) (by decide) (by decide) kl18_L_undo hce hcv hcl ?_
    refine lv_astore_n (lv' := [(2, .ref q9), (0, .ref (XA.o aX)), (1, .ref aO)]) hx hb dL_undo_11 rfl hl (by decide) rfl (fun ls hl => ?_)
    refine lv_iconst (v := 1) hx hb dL_undo_12 (by decide) ?_
    exact e_i (w1 := (fun (u : XV × OV) => (xW t aX u.1 ++ (oW t aO u.2)))) X (vX_5, vO) hw h dL_undo_13
  obtain ⟨vX_1, rfl⟩ : ∃ z, z = u := ⟨_, rfl⟩
  refine lv_i2l (v := Int32.toInt64 r_2) hx hb dL_undo_6 rfl ?_
  refine lv_topl (fun f_3 ef_3 => ?_)
  replace h := h f_3 ef_3
  obtain ⟨o_4, eo_4⟩ : ∃ z : Nat → Int64, z = vp_updL vO 0 f_3 := ⟨_, rfl⟩
  replace h := h o_4 eo_4
  refine r_last (ws' := (xW t aX vX_1 ++ (oW t aO o_4))) X hw 61 rfl (vpl rfl) (by subst eo_4; rfl) dL_undo_7 (fun H locs hw => ?_)
  refine lv_goto (tgt := 14) hx hb dL_undo_8 (by decide) ?_
  refine lv_iconst (v := 0) hx hb dL_undo_14 (by decide) ?_
  exact e_i (w1 := (fun (u : XV × OV) => (xW t aX u.1 ++ (oW t aO u.2)))) X (vX_1, o_4) hw h dL_undo_15
/-! L_cell -/
theorem kl34_L_cell : Cond.classLink RL 34 "java/lang/IndexOutOfBoundsException" ∈ wsL_cell := List.mem_of_getElem? (i := 1) rfl
theorem kl13_L_cell : Cond.classLink RL 13 "java/lang/IllegalArgumentException" ∈ wsL_cell := List.mem_of_getElem? (i := 2) rfl
def wp_L_cell (vX : XV) (vO : OV) (p1 : Int32) (p2 : Int32) (Q : Int32 → XV → OV → Prop) : Prop := wp_X6_cell vX p1 p2 (fun (r_2 : Int32) (vX_1 : XV) => ∀ f_3 : Int64, f_3 = (Int32.toInt64 r_2) → ∀ o_4 : Nat → Int64, o_4 = vp_updL vO 0 f_3 → Q 0 vX_1 o_4) (fun (E : String) (vX_5 : XV) => (E = "java/lang/IndexOutOfBoundsException" ∧ Q 1 vX_5 vO) ∨ (E = "java/lang/IllegalArgumentException" ∧ Q 2 vX_5 vO))
set_option maxHeartbeats 4000000 in
set_option maxRecDepth 100000 in
theorem c_L_cell (l : Launch) (D : va_G) (t : T3) (aX : XA) (aO : Nat) (vX : XV) (vO : OV) (p1 : Int32) (p2 : Int32) (Q : Int32 → XV → OV → Prop) (hfl : l.stackTraces = false) (h : wp_L_cell vX vO p1 p2 Q) : Ct l yL_cell wsL_cell 8 143 2 12 [.ref (XA.o aX), .int p1, .int p2, .ref aO] D t (xW t aX vX ++ (oW t aO vO)) (fun sz => Qi D (xW t aX vX ++ (oW t aO vO)) (fun (u : XV × OV) => (xW t aX u.1 ++ (oW t aO u.2))) (fun (r : Int32) (u : XV × OV) => Q r u.1 u.2) sz) := by
  refine Ct.ofW (Qf := fun _ A => va_Qi (fun (r : Int32) (u : XV × OV) => Q r u.1 u.2) (B1 D (fun (u : XV × OV) => (xW t aX u.1 ++ (oW t aO u.2))) A) A) cL_cell 5 (some .int) [(0, 10, 13, 34), (0, 10, 17, 13)] (by decide) rfl (Nat.le_of_ble_eq_true rfl) ?_
  intro p e s m below meth c A ls htab X hw hl
  generalize ([.ref (XA.o aX), .int p1, .int p2, .ref aO] : List Value).toArray = args at X ⊢
  have hl : lv_has ls 5 [(0, .ref (XA.o aX)), (1, .int p1), (2, .int p2), (3, .ref aO)] := hl
  have hx := X.1.1
  have hb := X.1.2.1
  refine lv_aload_n hx hb dL_cell_0 rfl (lv_at hl 3 rfl) ?_
  refine lv_iconst (v := 0) hx hb dL_cell_1 (by decide) ?_
  refine lv_aload_n hx hb dL_cell_2 rfl (lv_at hl 0 rfl) ?_
  refine lv_iload_n hx hb dL_cell_3 rfl (lv_at hl 1 rfl) ?_
  refine lv_iload_n hx hb dL_cell_4 rfl (lv_at hl 2 rfl) ?_
  refine x_ci X hw (pm_l pm_0) (wn := fun (u : XV) => (xW t aX u ++ (oW t aO vO))) (fun u => (pm_l pm_0).symm) (x_runV X hw (c_X6_cell l D t aX vX p1 p2 _ _ hfl h) (pm_l pm_0) (cwV 2 X.1.2.2.2.2 gL_cell_X6_cell rfl rfl rfl (by decide +kernel) ⟨Nat.le_of_ble_eq_true rfl, Nat.le_of_ble_eq_true rfl⟩) (ci := 6) rfl rfl rfl rfl hl rfl (Nat.le_of_ble_eq_true rfl) dL_cell_5 ⟨Nat.le_of_ble_eq_true rfl, Nat.le_of_ble_eq_true rfl⟩) (fun E ce q9 u H locs h hw hce hcv hcl => ?_) (fun r_2 u H locs h hw => ?_)
  · obtain ⟨vX_5, rfl⟩ : ∃ z, z = u := ⟨_, rfl⟩
    rcases h with ⟨rfl, h⟩ | ⟨rfl, h⟩
    · refine x_catch1 X (0, 10, 13, 34) [(0, 10, 17, 13)] htab (by decide +kernel) (by decide) (by decide) kl34_L_cell hce hcv hcl ?_
      refine lv_astore (lv' := [(4, .ref q9), (0, .ref (XA.o aX)), (1, .int p1), (2, .int p2), (3, .ref aO)]) hx hb dL_cell_13 hl (by decide) rfl (fun ls hl => ?_)
      refine lv_iconst (v := 1) hx hb dL_cell_15 (by decide) ?_
      exact e_i (w1 := (fun (u : XV × OV) => (xW t aX u.1 ++ (oW t aO u.2)))) X (vX_5, vO) hw h dL_cell_16
    · refine x_catch2 X (0, 10, 13, 34) (0, 10, 17, 13) [] htab (E0 := "java/lang/IndexOutOfBoundsException") (by decide +kernel) (by decide +kernel) (by decide) kl34_L_cell (by decide) (by decide) kl13_L_cell hce hcv hcl ?_
      refine lv_astore (lv' := [(4, .ref q9), (0, .ref (XA.o aX)), (1, .int p1), (2, .int p2), (3, .ref aO)]) hx hb dL_cell_17 hl (by decide) rfl (fun ls hl => ?_)
      refine lv_iconst (v := 2) hx hb dL_cell_19 (by decide) ?_
      exact e_i (w1 := (fun (u : XV × OV) => (xW t aX u.1 ++ (oW t aO u.2)))) X (vX_5, vO) hw h dL_cell_20
  obtain ⟨vX_1, rfl⟩ : ∃ z, z = u := ⟨_, rfl⟩
  refine lv_i2l (v := Int32.toInt64 r_2) hx hb dL_cell_8 rfl ?_
  refine lv_topl (fun f_3 ef_3 => ?_)
  replace h := h f_3 ef_3
  obtain ⟨o_4, eo_4⟩ : ∃ z : Nat → Int64, z = vp_updL vO 0 f_3 := ⟨_, rfl⟩
  replace h := h o_4 eo_4
  refine r_last (ws' := (xW t aX vX_1 ++ (oW t aO o_4))) X hw 61 rfl (vpl rfl) (by subst eo_4; rfl) dL_cell_9 (fun H locs hw => ?_)
  refine lv_goto (tgt := 21) hx hb dL_cell_10 (by decide) ?_
  refine lv_iconst (v := 0) hx hb dL_cell_21 (by decide) ?_
  exact e_i (w1 := (fun (u : XV × OV) => (xW t aX u.1 ++ (oW t aO u.2)))) X (vX_1, o_4) hw h dL_cell_22
/-! L_color -/
theorem kl34_L_color : Cond.classLink RL 34 "java/lang/IndexOutOfBoundsException" ∈ wsL_color := List.mem_of_getElem? (i := 1) rfl
def wp_L_color (vX : XV) (vO : OV) (p1 : Int32) (p2 : Int32) (p3 : Int32) (Q : Int32 → XV → OV → Prop) : Prop := wp_X6_color vX p1 p2 p3 (fun (r_2 : Int32) (vX_1 : XV) => ∀ f_3 : Int64, f_3 = (Int32.toInt64 r_2) → ∀ o_4 : Nat → Int64, o_4 = vp_updL vO 0 f_3 → Q 0 vX_1 o_4) (fun (E : String) (vX_5 : XV) => (E = "java/lang/IndexOutOfBoundsException" ∧ Q 1 vX_5 vO))
set_option maxHeartbeats 4000000 in
set_option maxRecDepth 100000 in
theorem c_L_color (l : Launch) (D : va_G) (t : T3) (aX : XA) (aO : Nat) (vX : XV) (vO : OV) (p1 : Int32) (p2 : Int32) (p3 : Int32) (Q : Int32 → XV → OV → Prop) (hfl : l.stackTraces = false) (h : wp_L_color vX vO p1 p2 p3 Q) : Ct l yL_color wsL_color 8 144 2 12 [.ref (XA.o aX), .int p1, .int p2, .int p3, .ref aO] D t (xW t aX vX ++ (oW t aO vO)) (fun sz => Qi D (xW t aX vX ++ (oW t aO vO)) (fun (u : XV × OV) => (xW t aX u.1 ++ (oW t aO u.2))) (fun (r : Int32) (u : XV × OV) => Q r u.1 u.2) sz) := by
  refine Ct.ofW (Qf := fun _ A => va_Qi (fun (r : Int32) (u : XV × OV) => Q r u.1 u.2) (B1 D (fun (u : XV × OV) => (xW t aX u.1 ++ (oW t aO u.2))) A) A) cL_color 6 (some .int) [(0, 12, 15, 34)] (by decide) rfl (Nat.le_of_ble_eq_true rfl) ?_
  intro p e s m below meth c A ls htab X hw hl
  generalize ([.ref (XA.o aX), .int p1, .int p2, .int p3, .ref aO] : List Value).toArray = args at X ⊢
  have hl : lv_has ls 6 [(0, .ref (XA.o aX)), (1, .int p1), (2, .int p2), (3, .int p3), (4, .ref aO)] := hl
  have hx := X.1.1
  have hb := X.1.2.1
  refine lv_aload hx hb dL_color_0 (lv_at hl 4 rfl) ?_
  refine lv_iconst (v := 0) hx hb dL_color_2 (by decide) ?_
  refine lv_aload_n hx hb dL_color_3 rfl (lv_at hl 0 rfl) ?_
  refine lv_iload_n hx hb dL_color_4 rfl (lv_at hl 1 rfl) ?_
  refine lv_iload_n hx hb dL_color_5 rfl (lv_at hl 2 rfl) ?_
  refine lv_iload_n hx hb dL_color_6 rfl (lv_at hl 3 rfl) ?_
  refine x_ci X hw (pm_l pm_0) (wn := fun (u : XV) => (xW t aX u ++ (oW t aO vO))) (fun u => (pm_l pm_0).symm) (x_runV X hw (c_X6_color l D t aX vX p1 p2 p3 _ _ hfl h) (pm_l pm_0) (cwV 3 X.1.2.2.2.2 gL_color_X6_color rfl rfl rfl (by decide +kernel) ⟨Nat.le_of_ble_eq_true rfl, Nat.le_of_ble_eq_true rfl⟩) (ci := 6) rfl rfl rfl rfl hl rfl (Nat.le_of_ble_eq_true rfl) dL_color_7 ⟨Nat.le_of_ble_eq_true rfl, Nat.le_of_ble_eq_true rfl⟩) (fun E ce q9 u H locs h hw hce hcv hcl => ?_) (fun r_2 u H locs h hw => ?_)
  · obtain ⟨vX_5, rfl⟩ : ∃ z, z = u := ⟨_, rfl⟩
    obtain ⟨rfl, h⟩ := h
    refine x_catch1 X (0, 12, 15, 34) [] htab (by decide +kernel) (by decide) (by decide) kl34_L_color hce hcv hcl ?_
    refine lv_astore (lv' := [(5, .ref q9), (0, .ref (XA.o aX)), (1, .int p1), (2, .int p2), (3, .int p3), (4, .ref aO)]) hx hb dL_color_15 hl (by decide) rfl (fun ls hl => ?_)
    refine lv_iconst (v := 1) hx hb dL_color_17 (by decide) ?_
    exact e_i (w1 := (fun (u : XV × OV) => (xW t aX u.1 ++ (oW t aO u.2)))) X (vX_5, vO) hw h dL_color_18
  obtain ⟨vX_1, rfl⟩ : ∃ z, z = u := ⟨_, rfl⟩
  refine lv_i2l (v := Int32.toInt64 r_2) hx hb dL_color_10 rfl ?_
  refine lv_topl (fun f_3 ef_3 => ?_)
  replace h := h f_3 ef_3
  obtain ⟨o_4, eo_4⟩ : ∃ z : Nat → Int64, z = vp_updL vO 0 f_3 := ⟨_, rfl⟩
  replace h := h o_4 eo_4
  refine r_last (ws' := (xW t aX vX_1 ++ (oW t aO o_4))) X hw 61 rfl (vpl rfl) (by subst eo_4; rfl) dL_color_11 (fun H locs hw => ?_)
  refine lv_goto (tgt := 19) hx hb dL_color_12 (by decide) ?_
  refine lv_iconst (v := 0) hx hb dL_color_19 (by decide) ?_
  exact e_i (w1 := (fun (u : XV × OV) => (xW t aX u.1 ++ (oW t aO u.2)))) X (vX_1, o_4) hw h dL_color_20
/-! L_tile -/
theorem kl34_L_tile : Cond.classLink RL 34 "java/lang/IndexOutOfBoundsException" ∈ wsL_tile := List.mem_of_getElem? (i := 1) rfl
theorem kl13_L_tile : Cond.classLink RL 13 "java/lang/IllegalArgumentException" ∈ wsL_tile := List.mem_of_getElem? (i := 2) rfl
def wp_L_tile (vX : XV) (vO : OV) (p1 : Int32) (p2 : Int32) (Q : Int32 → XV → OV → Prop) : Prop := wp_X6_tile vX p1 p2 (fun (r_2 : Int32) (vX_1 : XV) => ∀ f_3 : Int64, f_3 = (Int32.toInt64 r_2) → ∀ o_4 : Nat → Int64, o_4 = vp_updL vO 0 f_3 → Q 0 vX_1 o_4) (fun (E : String) (vX_5 : XV) => (E = "java/lang/IndexOutOfBoundsException" ∧ Q 1 vX_5 vO) ∨ (E = "java/lang/IllegalArgumentException" ∧ Q 2 vX_5 vO))
set_option maxHeartbeats 4000000 in
set_option maxRecDepth 100000 in
theorem c_L_tile (l : Launch) (D : va_G) (t : T3) (aX : XA) (aO : Nat) (vX : XV) (vO : OV) (p1 : Int32) (p2 : Int32) (Q : Int32 → XV → OV → Prop) (hfl : l.stackTraces = false) (h : wp_L_tile vX vO p1 p2 Q) : Ct l yL_tile wsL_tile 7 122 1 6 [.ref (XA.o aX), .int p1, .int p2, .ref aO] D t (xW t aX vX ++ (oW t aO vO)) (fun sz => Qi D (xW t aX vX ++ (oW t aO vO)) (fun (u : XV × OV) => (xW t aX u.1 ++ (oW t aO u.2))) (fun (r : Int32) (u : XV × OV) => Q r u.1 u.2) sz) := by
  refine Ct.ofW (Qf := fun _ A => va_Qi (fun (r : Int32) (u : XV × OV) => Q r u.1 u.2) (B1 D (fun (u : XV × OV) => (xW t aX u.1 ++ (oW t aO u.2))) A) A) cL_tile 5 (some .int) [(0, 10, 13, 34), (0, 10, 17, 13)] (by decide) rfl (Nat.le_of_ble_eq_true rfl) ?_
  intro p e s m below meth c A ls htab X hw hl
  generalize ([.ref (XA.o aX), .int p1, .int p2, .ref aO] : List Value).toArray = args at X ⊢
  have hl : lv_has ls 5 [(0, .ref (XA.o aX)), (1, .int p1), (2, .int p2), (3, .ref aO)] := hl
  have hx := X.1.1
  have hb := X.1.2.1
  refine lv_aload_n hx hb dL_tile_0 rfl (lv_at hl 3 rfl) ?_
  refine lv_iconst (v := 0) hx hb dL_tile_1 (by decide) ?_
  refine lv_aload_n hx hb dL_tile_2 rfl (lv_at hl 0 rfl) ?_
  refine lv_iload_n hx hb dL_tile_3 rfl (lv_at hl 1 rfl) ?_
  refine lv_iload_n hx hb dL_tile_4 rfl (lv_at hl 2 rfl) ?_
  refine x_ci X hw (pm_l pm_0) (wn := fun (u : XV) => (xW t aX u ++ (oW t aO vO))) (fun u => (pm_l pm_0).symm) (x_runV X hw (c_X6_tile l D t aX vX p1 p2 _ _ hfl h) (pm_l pm_0) (cwV 2 X.1.2.2.2.2 gL_tile_X6_tile rfl rfl rfl (by decide +kernel) ⟨Nat.le_of_ble_eq_true rfl, Nat.le_of_ble_eq_true rfl⟩) (ci := 6) rfl rfl rfl rfl hl rfl (Nat.le_of_ble_eq_true rfl) dL_tile_5 ⟨Nat.le_of_ble_eq_true rfl, Nat.le_of_ble_eq_true rfl⟩) (fun E ce q9 u H locs h hw hce hcv hcl => ?_) (fun r_2 u H locs h hw => ?_)
  · obtain ⟨vX_5, rfl⟩ : ∃ z, z = u := ⟨_, rfl⟩
    rcases h with ⟨rfl, h⟩ | ⟨rfl, h⟩
    · refine x_catch1 X (0, 10, 13, 34) [(0, 10, 17, 13)] htab (by decide +kernel) (by decide) (by decide) kl34_L_tile hce hcv hcl ?_
      refine lv_astore (lv' := [(4, .ref q9), (0, .ref (XA.o aX)), (1, .int p1), (2, .int p2), (3, .ref aO)]) hx hb dL_tile_13 hl (by decide) rfl (fun ls hl => ?_)
      refine lv_iconst (v := 1) hx hb dL_tile_15 (by decide) ?_
      exact e_i (w1 := (fun (u : XV × OV) => (xW t aX u.1 ++ (oW t aO u.2)))) X (vX_5, vO) hw h dL_tile_16
    · refine x_catch2 X (0, 10, 13, 34) (0, 10, 17, 13) [] htab (E0 := "java/lang/IndexOutOfBoundsException") (by decide +kernel) (by decide +kernel) (by decide) kl34_L_tile (by decide) (by decide) kl13_L_tile hce hcv hcl ?_
      refine lv_astore (lv' := [(4, .ref q9), (0, .ref (XA.o aX)), (1, .int p1), (2, .int p2), (3, .ref aO)]) hx hb dL_tile_17 hl (by decide) rfl (fun ls hl => ?_)
      refine lv_iconst (v := 2) hx hb dL_tile_19 (by decide) ?_
      exact e_i (w1 := (fun (u : XV × OV) => (xW t aX u.1 ++ (oW t aO u.2)))) X (vX_5, vO) hw h dL_tile_20
  obtain ⟨vX_1, rfl⟩ : ∃ z, z = u := ⟨_, rfl⟩
  refine lv_i2l (v := Int32.toInt64 r_2) hx hb dL_tile_8 rfl ?_
  refine lv_topl (fun f_3 ef_3 => ?_)
  replace h := h f_3 ef_3
  obtain ⟨o_4, eo_4⟩ : ∃ z : Nat → Int64, z = vp_updL vO 0 f_3 := ⟨_, rfl⟩
  replace h := h o_4 eo_4
  refine r_last (ws' := (xW t aX vX_1 ++ (oW t aO o_4))) X hw 61 rfl (vpl rfl) (by subst eo_4; rfl) dL_tile_9 (fun H locs hw => ?_)
  refine lv_goto (tgt := 21) hx hb dL_tile_10 (by decide) ?_
  refine lv_iconst (v := 0) hx hb dL_tile_21 (by decide) ?_
  exact e_i (w1 := (fun (u : XV × OV) => (xW t aX u.1 ++ (oW t aO u.2)))) X (vX_1, o_4) hw h dL_tile_22
/-! L_count -/
theorem kl13_L_count : Cond.classLink RL 13 "java/lang/IllegalArgumentException" ∈ wsL_count := List.mem_of_getElem? (i := 1) rfl
def wp_L_count (vX : XV) (vO : OV) (p1 : Int32) (Q : Int32 → XV → OV → Prop) : Prop := wp_X6_count vX p1 (fun (r_2 : Int32) (vX_1 : XV) => ∀ f_3 : Int64, f_3 = (Int32.toInt64 r_2) → ∀ o_4 : Nat → Int64, o_4 = vp_updL vO 0 f_3 → Q 0 vX_1 o_4) (fun (E : String) (vX_5 : XV) => (E = "java/lang/IllegalArgumentException" ∧ Q 1 vX_5 vO))
set_option maxHeartbeats 4000000 in
set_option maxRecDepth 100000 in
theorem c_L_count (l : Launch) (D : va_G) (t : T3) (aX : XA) (aO : Nat) (vX : XV) (vO : OV) (p1 : Int32) (Q : Int32 → XV → OV → Prop) (hfl : l.stackTraces = false) (h : wp_L_count vX vO p1 Q) : Ct l yL_count wsL_count 7 134 1 6 [.ref (XA.o aX), .int p1, .ref aO] D t (xW t aX vX ++ (oW t aO vO)) (fun sz => Qi D (xW t aX vX ++ (oW t aO vO)) (fun (u : XV × OV) => (xW t aX u.1 ++ (oW t aO u.2))) (fun (r : Int32) (u : XV × OV) => Q r u.1 u.2) sz) := by
  refine Ct.ofW (Qf := fun _ A => va_Qi (fun (r : Int32) (u : XV × OV) => Q r u.1 u.2) (B1 D (fun (u : XV × OV) => (xW t aX u.1 ++ (oW t aO u.2))) A) A) cL_count 4 (some .int) [(0, 9, 12, 13)] (by decide) rfl (Nat.le_of_ble_eq_true rfl) ?_
  intro p e s m below meth c A ls htab X hw hl
  generalize ([.ref (XA.o aX), .int p1, .ref aO] : List Value).toArray = args at X ⊢
  have hl : lv_has ls 4 [(0, .ref (XA.o aX)), (1, .int p1), (2, .ref aO)] := hl
  have hx := X.1.1
  have hb := X.1.2.1
  refine lv_aload_n hx hb dL_count_0 rfl (lv_at hl 2 rfl) ?_
  refine lv_iconst (v := 0) hx hb dL_count_1 (by decide) ?_
  refine lv_aload_n hx hb dL_count_2 rfl (lv_at hl 0 rfl) ?_
  refine lv_iload_n hx hb dL_count_3 rfl (lv_at hl 1 rfl) ?_
  refine x_ci X hw (pm_l pm_0) (wn := fun (u : XV) => (xW t aX u ++ (oW t aO vO))) (fun u => (pm_l pm_0).symm) (x_runV X hw (c_X6_count l D t aX vX p1 _ _ hfl h) (pm_l pm_0) (cwV 1 X.1.2.2.2.2 gL_count_X6_count rfl rfl rfl (by decide +kernel) ⟨Nat.le_of_ble_eq_true rfl, Nat.le_of_ble_eq_true rfl⟩) (ci := 6) rfl rfl rfl rfl hl rfl (Nat.le_of_ble_eq_true rfl) dL_count_4 ⟨Nat.le_of_ble_eq_true rfl, Nat.le_of_ble_eq_true rfl⟩) (fun E ce q9 u H locs h hw hce hcv hcl => ?_) (fun r_2 u H locs h hw => ?_)
  · obtain ⟨vX_5, rfl⟩ : ∃ z, z = u := ⟨_, rfl⟩
    obtain ⟨rfl, h⟩ := h
    refine x_catch1 X (0, 9, 12, 13) [] htab (by decide +kernel) (by decide) (by decide) kl13_L_count hce hcv hcl ?_
    refine lv_astore_n (lv' := [(3, .ref q9), (0, .ref (XA.o aX)), (1, .int p1), (2, .ref aO)]) hx hb dL_count_12 rfl hl (by decide) rfl (fun ls hl => ?_)
    refine lv_iconst (v := 1) hx hb dL_count_13 (by decide) ?_
    exact e_i (w1 := (fun (u : XV × OV) => (xW t aX u.1 ++ (oW t aO u.2)))) X (vX_5, vO) hw h dL_count_14
  obtain ⟨vX_1, rfl⟩ : ∃ z, z = u := ⟨_, rfl⟩
  refine lv_i2l (v := Int32.toInt64 r_2) hx hb dL_count_7 rfl ?_
  refine lv_topl (fun f_3 ef_3 => ?_)
  replace h := h f_3 ef_3
  obtain ⟨o_4, eo_4⟩ : ∃ z : Nat → Int64, z = vp_updL vO 0 f_3 := ⟨_, rfl⟩
  replace h := h o_4 eo_4
  refine r_last (ws' := (xW t aX vX_1 ++ (oW t aO o_4))) X hw 61 rfl (vpl rfl) (by subst eo_4; rfl) dL_count_8 (fun H locs hw => ?_)
  refine lv_goto (tgt := 15) hx hb dL_count_9 (by decide) ?_
  refine lv_iconst (v := 0) hx hb dL_count_15 (by decide) ?_
  exact e_i (w1 := (fun (u : XV × OV) => (xW t aX u.1 ++ (oW t aO u.2)))) X (vX_1, o_4) hw h dL_count_16
/-! L_layings -/
theorem kl13_L_layings : Cond.classLink RL 13 "java/lang/IllegalArgumentException" ∈ wsL_layings := List.mem_of_getElem? (i := 1) rfl
def wp_L_layings (vX : XV) (vO : OV) (p1 : Int32) (p2 : Int32) (Q : Int32 → XV → OV → Prop) : Prop := wp_X6_layings vX p1 p2 (fun (r_2 : Int32) (vX_1 : XV) => ∀ f_3 : Int64, f_3 = (Int32.toInt64 r_2) → ∀ o_4 : Nat → Int64, o_4 = vp_updL vO 0 f_3 → Q 0 vX_1 o_4) (fun (E : String) (vX_5 : XV) => (E = "java/lang/IllegalArgumentException" ∧ Q 1 vX_5 vO))
set_option maxHeartbeats 4000000 in
set_option maxRecDepth 100000 in
theorem c_L_layings (l : Launch) (D : va_G) (t : T3) (aX : XA) (aO : Nat) (vX : XV) (vO : OV) (p1 : Int32) (p2 : Int32) (Q : Int32 → XV → OV → Prop) (hfl : l.stackTraces = false) (h : wp_L_layings vX vO p1 p2 Q) : Ct l yL_layings wsL_layings 82 1651 1 6 [.ref (XA.o aX), .int p1, .int p2, .ref aO] D t (xW t aX vX ++ (oW t aO vO)) (fun sz => Qi D (xW t aX vX ++ (oW t aO vO)) (fun (u : XV × OV) => (xW t aX u.1 ++ (oW t aO u.2))) (fun (r : Int32) (u : XV × OV) => Q r u.1 u.2) sz) := by
  refine Ct.ofW (Qf := fun _ A => va_Qi (fun (r : Int32) (u : XV × OV) => Q r u.1 u.2) (B1 D (fun (u : XV × OV) => (xW t aX u.1 ++ (oW t aO u.2))) A) A) cL_layings 5 (some .int) [(0, 10, 13, 13)] (by decide) rfl (Nat.le_of_ble_eq_true rfl) ?_
  intro p e s m below meth c A ls htab X hw hl
  generalize ([.ref (XA.o aX), .int p1, .int p2, .ref aO] : List Value).toArray = args at X ⊢
  have hl : lv_has ls 5 [(0, .ref (XA.o aX)), (1, .int p1), (2, .int p2), (3, .ref aO)] := hl
  have hx := X.1.1
  have hb := X.1.2.1
  refine lv_aload_n hx hb dL_layings_0 rfl (lv_at hl 3 rfl) ?_
  refine lv_iconst (v := 0) hx hb dL_layings_1 (by decide) ?_
  refine lv_aload_n hx hb dL_layings_2 rfl (lv_at hl 0 rfl) ?_
  refine lv_iload_n hx hb dL_layings_3 rfl (lv_at hl 1 rfl) ?_
  refine lv_iload_n hx hb dL_layings_4 rfl (lv_at hl 2 rfl) ?_
  refine x_ci X hw (pm_l pm_0) (wn := fun (u : XV) => (xW t aX u ++ (oW t aO vO))) (fun u => (pm_l pm_0).symm) (x_runV X hw (c_X6_layings l D t aX vX p1 p2 _ _ hfl h) (pm_l pm_0) (cwV 2 X.1.2.2.2.2 gL_layings_X6_layings rfl rfl rfl (by decide +kernel) ⟨Nat.le_of_ble_eq_true rfl, Nat.le_of_ble_eq_true rfl⟩) (ci := 6) rfl rfl rfl rfl hl rfl (Nat.le_of_ble_eq_true rfl) dL_layings_5 ⟨Nat.le_of_ble_eq_true rfl, Nat.le_of_ble_eq_true rfl⟩) (fun E ce q9 u H locs h hw hce hcv hcl => ?_) (fun r_2 u H locs h hw => ?_)
  · obtain ⟨vX_5, rfl⟩ : ∃ z, z = u := ⟨_, rfl⟩
    obtain ⟨rfl, h⟩ := h
    refine x_catch1 X (0, 10, 13, 13) [] htab (by decide +kernel) (by decide) (by decide) kl13_L_layings hce hcv hcl ?_
    refine lv_astore (lv' := [(4, .ref q9), (0, .ref (XA.o aX)), (1, .int p1), (2, .int p2), (3, .ref aO)]) hx hb dL_layings_13 hl (by decide) rfl (fun ls hl => ?_)
    refine lv_iconst (v := 1) hx hb dL_layings_15 (by decide) ?_
    exact e_i (w1 := (fun (u : XV × OV) => (xW t aX u.1 ++ (oW t aO u.2)))) X (vX_5, vO) hw h dL_layings_16
  obtain ⟨vX_1, rfl⟩ : ∃ z, z = u := ⟨_, rfl⟩
  refine lv_i2l (v := Int32.toInt64 r_2) hx hb dL_layings_8 rfl ?_
  refine lv_topl (fun f_3 ef_3 => ?_)
  replace h := h f_3 ef_3
  obtain ⟨o_4, eo_4⟩ : ∃ z : Nat → Int64, z = vp_updL vO 0 f_3 := ⟨_, rfl⟩
  replace h := h o_4 eo_4
  refine r_last (ws' := (xW t aX vX_1 ++ (oW t aO o_4))) X hw 61 rfl (vpl rfl) (by subst eo_4; rfl) dL_layings_9 (fun H locs hw => ?_)
  refine lv_goto (tgt := 17) hx hb dL_layings_10 (by decide) ?_
  refine lv_iconst (v := 0) hx hb dL_layings_17 (by decide) ?_
  exact e_i (w1 := (fun (u : XV × OV) => (xW t aX u.1 ++ (oW t aO u.2)))) X (vX_1, o_4) hw h dL_layings_18
/-! L_why -/
theorem kl34_L_why : Cond.classLink RL 34 "java/lang/IndexOutOfBoundsException" ∈ wsL_why := List.mem_of_getElem? (i := 1) rfl
def wp_L_why (vX : XV) (vO : OV) (p1 : Int32) (p2 : Int32) (Q : Int32 → XV → OV → Prop) : Prop := wp_X6_why vX p1 p2 (fun (r_2 : Int32) (vX_1 : XV) => ∀ f_3 : Int64, f_3 = (Int32.toInt64 r_2) → ∀ o_4 : Nat → Int64, o_4 = vp_updL vO 0 f_3 → Q 0 vX_1 o_4) (fun (E : String) (vX_5 : XV) => (E = "java/lang/IndexOutOfBoundsException" ∧ Q 1 vX_5 vO))
set_option maxHeartbeats 4000000 in
set_option maxRecDepth 100000 in
theorem c_L_why (l : Launch) (D : va_G) (t : T3) (aX : XA) (aO : Nat) (vX : XV) (vO : OV) (p1 : Int32) (p2 : Int32) (Q : Int32 → XV → OV → Prop) (hfl : l.stackTraces = false) (h : wp_L_why vX vO p1 p2 Q) : Ct l yL_why wsL_why 9 165 2 12 [.ref (XA.o aX), .int p1, .int p2, .ref aO] D t (xW t aX vX ++ (oW t aO vO)) (fun sz => Qi D (xW t aX vX ++ (oW t aO vO)) (fun (u : XV × OV) => (xW t aX u.1 ++ (oW t aO u.2))) (fun (r : Int32) (u : XV × OV) => Q r u.1 u.2) sz) := by
  refine Ct.ofW (Qf := fun _ A => va_Qi (fun (r : Int32) (u : XV × OV) => Q r u.1 u.2) (B1 D (fun (u : XV × OV) => (xW t aX u.1 ++ (oW t aO u.2))) A) A) cL_why 5 (some .int) [(0, 10, 13, 34)] (by decide) rfl (Nat.le_of_ble_eq_true rfl) ?_
  intro p e s m below meth c A ls htab X hw hl
  generalize ([.ref (XA.o aX), .int p1, .int p2, .ref aO] : List Value).toArray = args at X ⊢
  have hl : lv_has ls 5 [(0, .ref (XA.o aX)), (1, .int p1), (2, .int p2), (3, .ref aO)] := hl
  have hx := X.1.1
  have hb := X.1.2.1
  refine lv_aload_n hx hb dL_why_0 rfl (lv_at hl 3 rfl) ?_
  refine lv_iconst (v := 0) hx hb dL_why_1 (by decide) ?_
  refine lv_aload_n hx hb dL_why_2 rfl (lv_at hl 0 rfl) ?_
  refine lv_iload_n hx hb dL_why_3 rfl (lv_at hl 1 rfl) ?_
  refine lv_iload_n hx hb dL_why_4 rfl (lv_at hl 2 rfl) ?_
  refine x_ci X hw (pm_l pm_0) (wn := fun (u : XV) => (xW t aX u ++ (oW t aO vO))) (fun u => (pm_l pm_0).symm) (x_runV X hw (c_X6_why l D t aX vX p1 p2 _ _ hfl h) (pm_l pm_0) (cwV 2 X.1.2.2.2.2 gL_why_X6_why rfl rfl rfl (by decide +kernel) ⟨Nat.le_of_ble_eq_true rfl, Nat.le_of_ble_eq_true rfl⟩) (ci := 6) rfl rfl rfl rfl hl rfl (Nat.le_of_ble_eq_true rfl) dL_why_5 ⟨Nat.le_of_ble_eq_true rfl, Nat.le_of_ble_eq_true rfl⟩) (fun E ce q9 u H locs h hw hce hcv hcl => ?_) (fun r_2 u H locs h hw => ?_)
  · obtain ⟨vX_5, rfl⟩ : ∃ z, z = u := ⟨_, rfl⟩
    obtain ⟨rfl, h⟩ := h
    refine x_catch1 X (0, 10, 13, 34) [] htab (by decide +kernel) (by decide) (by decide) kl34_L_why hce hcv hcl ?_
    refine lv_astore (lv' := [(4, .ref q9), (0, .ref (XA.o aX)), (1, .int p1), (2, .int p2), (3, .ref aO)]) hx hb dL_why_13 hl (by decide) rfl (fun ls hl => ?_)
    refine lv_iconst (v := 1) hx hb dL_why_15 (by decide) ?_
    exact e_i (w1 := (fun (u : XV × OV) => (xW t aX u.1 ++ (oW t aO u.2)))) X (vX_5, vO) hw h dL_why_16
  obtain ⟨vX_1, rfl⟩ : ∃ z, z = u := ⟨_, rfl⟩
  refine lv_i2l (v := Int32.toInt64 r_2) hx hb dL_why_8 rfl ?_
  refine lv_topl (fun f_3 ef_3 => ?_)
  replace h := h f_3 ef_3
  obtain ⟨o_4, eo_4⟩ : ∃ z : Nat → Int64, z = vp_updL vO 0 f_3 := ⟨_, rfl⟩
  replace h := h o_4 eo_4
  refine r_last (ws' := (xW t aX vX_1 ++ (oW t aO o_4))) X hw 61 rfl (vpl rfl) (by subst eo_4; rfl) dL_why_9 (fun H locs hw => ?_)
  refine lv_goto (tgt := 17) hx hb dL_why_10 (by decide) ?_
  refine lv_iconst (v := 0) hx hb dL_why_17 (by decide) ?_
  exact e_i (w1 := (fun (u : XV × OV) => (xW t aX u.1 ++ (oW t aO u.2)))) X (vX_1, o_4) hw h dL_why_18
