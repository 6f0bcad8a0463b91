/-! constructors -/
theorem arrV_congr {cA : ClassId} {n : Nat} {f g : Nat → Value} (h : ∀ j, j < n → f j = g j) : arrV cA n f = arrV cA n g := by
  have e : (fun (j : Fin n) => f j.val) = (fun (j : Fin n) => g j.val) := funext (fun j => h j.val j.isLt)
  unfold arrV
  rw [e]
/-- an array of references whose places are all told, in another's words -/
theorem Wd.qcong {D : va_G} {A : Nat → Prop} {H0 H : Heap} {locs : List Loc} {p r : va_W} {a : Nat} {cA : ClassId} {n : Nat} {f g : Nat → Option Nat} (hw : Wd D A H0 (p ++ ((a, .inl (cA, n, .inr (.inr (.inr (.inr f))))) :: r)) H locs) (hfg : ∀ j, j < n → f j = g j) : Wd D A H0 (p ++ ((a, .inl (cA, n, .inr (.inr (.inr (.inr g))))) :: r)) H locs := by
  have e : vp_cell cA (n, .inr (.inr (.inr (.inr f)))) = vp_cell cA (n, .inr (.inr (.inr (.inr g)))) := by
    rw [vp_cell_q, vp_cell_q]
    exact arrV_congr (fun j hj => by rw [hfg j hj])
  obtain ⟨h1, h2, h3⟩ := hw
  rw [va_P_iff] at h1
  rw [va_D_iff] at h2
  refine ⟨va_P_iff.mpr (fun q hq => ?_), va_D_iff.mpr ⟨?_, fun q hq => ?_⟩, h3⟩
  · rcases List.mem_append.mp hq with hq | hq
    · exact h1 q (List.mem_append_left _ hq)
    · rcases List.mem_cons.mp hq with hq | hq
      · subst hq
        have h9 := h1 _ (List.mem_append_right _ List.mem_cons_self)
        have h8 : H[a]? = some (vp_cell cA (n, .inr (.inr (.inr (.inr f))))) := h9
        rw [e] at h8
        exact h8
      · exact h1 q (List.mem_append_right _ (List.mem_cons_of_mem _ hq))
  · have := h2.1
    simp only [List.map_append, List.map_cons] at this ⊢
    exact this
  · rcases List.mem_append.mp hq with hq | hq
    · exact h2.2 q (List.mem_append_left _ hq)
    · rcases List.mem_cons.mp hq with hq | hq
      · subst hq
        exact h2.2 (a, .inl (cA, n, .inr (.inr (.inr (.inr f))))) (List.mem_append_right _ List.mem_cons_self)
      · exact h2.2 q (List.mem_append_right _ (List.mem_cons_of_mem _ hq))
section RC
variable {p : Program} {l : Launch} {e : Env} {R : Room} {s : State} {m : MethodId} {args : Array Value} {below : List Frame} {meth : Method} {c : Code} {H : Heap} {locs : List Loc} {cells slots : Nat} {Q : State → Prop}
variable {cc : ByteArray} {nL : Nat} {ret : Option FieldType} {own : String} {Ts : List Cond} {D : va_G} {t : T3} {A : Nat → Prop} {ws wc wr : va_W} {pc : Nat} {ls : Array Slot} {rest st0 As : List Value} {y : MethodName} {yw : List Cond} {fr lo mc ms n index b maxL : Nat} {bytes : ByteArray} {yret : Option FieldType} {lv : List (Nat × Value)} {Qc : Nat → Array Value → State → Outcome → State → Prop} {a : Nat}
theorem r_new (X : Cx p s m meth c args cc nL ret own Ts D t A) (hw : Wd D A s.heap ws H locs) {C : String} {T : u_T} {N ci : Nat} (hin : ∀ w ∈ u_ws C T N, w ∈ Ts) (ty : Nat → FieldType) (hty : ∀ k, k < N → parseFieldDescriptor (T k).2.2.1 = some (ty k)) (hcl : Cond.classLink own index C ∈ Ts) (hinst : Cond.instantiable C N ∈ Ts) (hini : Cond.initialized C ∈ Ts) (hc : vwCl[ci]? = some (C, T, N)) {fs : List Value} (hfs : ∀ j, j < N → defaultValue (ty j) = vp_V fs j) (hcells : cells + 1 ≤ R.cells) (hslots : slots + N ≤ R.slots) {wn : Nat → va_W} (hws : ∀ q, ws ++ [(q, .inr (ci, fs))] = wn q) (hdg : decode cc pc = .ok (.new index, 3))
    (kk : ∀ (q : Nat) (H1 : Heap), Wd D A s.heap (wn q) H1 locs → W p l e R s m args below meth c H1 locs (cells + 1) (slots + N) Q (F0 m (pc + 3) ls (.ref q :: rest))) : W p l e R s m args below meth c H locs cells slots Q (F0 m pc ls rest) := by
  have hts := X.1.2.2.2.2
  exact va_new X.1.1 X.1.2.1 hts hin ty hty X.1.2.2.2.1 (hts _ hcl) (hts _ hinst) (hts _ hini) X.2.2.2.1.1 hw.1 hw.2.1 hw.2.2 X.2.2.2.2.1 hc hfs hcells hslots hdg (fun q H1 h1 h2 h3 => kk q H1 (by rw [← hws q]; exact ⟨h1, h2, h3⟩))
theorem r_newI (X : Cx p s m meth c args cc nL ret own Ts D t A) (hw : Wd D A s.heap ws H locs) (harr : Cond.arrayClass .int ∈ Ts) {i : Int32} {N : Nat} (hn : ¬ i < 0) (hN : i.toNatClampNeg = N) (hbytes : N * componentBytes .int ≤ 536870912) (hcells : cells + 1 ≤ R.cells) (hslots : slots + N ≤ R.slots) {wn : Nat → va_W} (hws : ∀ q, ws ++ [(q, .inl (t.1, N, .inl (fun _ => 0)))] = wn q) (hdg : decode cc pc = .ok (.newarray .int, 2))
    (kk : ∀ (q : Nat) (H1 : Heap), Wd D A s.heap (wn q) H1 locs → W p l e R s m args below meth c H1 locs (cells + 1) (slots + N) Q (F0 m (pc + 2) ls (.ref q :: rest))) : W p l e R s m args below meth c H locs cells slots Q (F0 m pc ls (.int i :: rest)) := by
  have hts := X.1.2.2.2.2
  have hK := X.2.2.2.1.1
  refine va_newa (atype := .int) (ty := .int) X.1.1 X.1.2.1 (hts _ harr) rfl hK hw.1 hw.2.1 hw.2.2 X.2.2.2.2.1 (a0 := (N, .inl (fun _ => 0))) (fun cA => rfl) hn hN hbytes hcells hslots hdg (fun q cA H1 hK9 h1 h2 h3 => kk q H1 ?_)
  have g1 : s.vm.findClass ("[" ++ FieldType.int.toString) = some cA := (hK9.2 3 (cA, .int) rfl).2
  have g2 : s.vm.findClass ("[" ++ FieldType.int.toString) = some t.1 := (hK.2 0 (t.1, .int) rfl).2
  have g3 : cA = t.1 := Option.some.inj (g1.symm.trans g2)
  subst g3
  rw [← hws q]
  exact ⟨h1, h2, h3⟩
/-- an array of Boards (k = 1) or Needs (k = 2) -/
theorem r_newQ (X : Cx p s m meth c args cc nL ret own Ts D t A) (hw : Wd D A s.heap ws H locs) {C : String} {cK : ClassId} (k : Nat) (hk : (tys t)[k]? = some (cK, .object C)) (hk4 : k < 3) (hcl : Cond.classLink own index C ∈ Ts) (hao : va_AO C s) {i : Int32} {N : Nat} (hn : ¬ i < 0) (hN : i.toNatClampNeg = N) (hbytes : N * 4 ≤ 536870912) (hcells : cells + 1 ≤ R.cells) (hslots : slots + N ≤ R.slots) {wn : Nat → va_W} (hws : ∀ q, ws ++ [(q, .inl (cK, N, .inr (.inr (.inr (.inr (fun _ => none))))))] = wn q) (hdg : decode cc pc = .ok (.anewarray index, 3))
    (kk : ∀ (q : Nat) (H1 : Heap), Wd D A s.heap (wn q) H1 locs → W p l e R s m args below meth c H1 locs (cells + 1) (slots + N) Q (F0 m (pc + 3) ls (.ref q :: rest))) : W p l e R s m args below meth c H locs cells slots Q (F0 m pc ls (.int i :: rest)) := by
  have hts := X.1.2.2.2.2
  have hK := X.2.2.2.1.1
  refine va_newq X.1.1 X.1.2.1 X.1.2.2.2.1 (hts _ hcl) hao hK hw.1 hw.2.1 hw.2.2 X.2.2.2.2.1 hn hN hbytes hcells hslots hdg (fun q cA H1 hK9 h1 h2 h3 => kk q H1 ?_)
  obtain ⟨-, -, -, -, -, g1⟩ := (hK9.2 3 (cA, .object C) rfl).2
  obtain ⟨-, -, -, -, -, g2⟩ := (hK.2 k (cK, .object C) hk).2
  have g3 : cA = cK := Option.some.inj (g1.symm.trans g2)
  subst g3
  rw [← hws q]
  exact ⟨h1, h2, h3⟩
theorem r_aast (X : Cx p s m meth c args cc nL ret own Ts D t A) (hw : Wd D A s.heap ws H locs) (q0 k qk ci : Nat) {cA : ClassId} {r : vw_C} {N v : Nat} {vs : List Value} {f : Nat → Option Nat} (ha : ws[q0]? = some (a, .inl (cA, N, .inr (.inr (.inr (.inr f)))))) (hk : (tys t)[k]? = some (cA, .object r.1)) (hv : ws[qk]? = some (v, .inr (ci, vs))) (hc : vwCl[ci]? = some r) {i : Int32} (hin : vp_in i N) {wn : va_W} (hws : ws.set q0 (a, .inl (cA, N, .inr (.inr (.inr (.inr (va_up f i.toNatClampNeg (some v))))))) = wn) (hdg : decode cc pc = .ok (.aastore, 1))
    (kk : ∀ (H1 : Heap) (locs1 : List Loc), Wd D A s.heap wn H1 locs1 → W p l e R s m args below meth c H1 locs1 cells slots Q (F0 m (pc + 1) ls rest)) : W p l e R s m args below meth c H locs cells slots Q (F0 m pc ls (.ref v :: .int i :: .ref a :: rest)) := by
  subst hws
  exact va_astq X.1.1 X.1.2.1 X.2.2.2.1.1 hw.1 hw.2.1 hw.2.2 q0 k qk ci ha hk hv hc hin hdg (fun H1 locs1 h1 h2 h3 => kk H1 locs1 ⟨h1, h2, h3⟩)
theorem r_runI (X : Cx p s m meth c args cc nL ret own Ts D t A) (hw : Wd D A s.heap ws H locs) (ct : Ct l y yw fr lo mc ms (.ref b :: As) D t wc Qc) (hp : ws.Perm (wc ++ wr))
    (cw : CallB R s args own index y bytes maxL none yw ({ frames := fr, cells := mc, slots := ms, locals := lo }) mc ms n ∧ y.name = "<init>" ∧ (Cond.instanceMethod y).before args s = true) (hlen : As.length = n) (hl : lv_has ls nL lv) (hst : st0 = As.reverse ++ .ref b :: rest) (hW : (rest.map fun v => v.category).sum ≤ 8) (hdg : decode cc pc = .ok (.invokespecial index, 3)) (hcs : cells + mc ≤ R.cells ∧ slots + ms ≤ R.slots) :
    va_Run p l e R s m args below meth c H locs cells slots mc ms (F0 m pc ls st0) rest (Qc H.size (Value.ref b :: As).toArray) (va_A wc H.size) := by
  obtain ⟨hPc, hDc, hFc⟩ := hw.cut hp
  have hZc : ∀ U : State, U.heap = H → s.WarmedH U.vm → ZA (va_A wc H.size) U U.heap := fun U hU hW => by rw [hU]; exact ZA.to X.2.2.2.2.2 hw.2.2.2.1 hW.alike (fun q h => hFc q h (fun z hz => X.2.2.2.2.1 z (Nat.le_trans hw.2.2.1 hz)))
  exact va_runI X.1 (ct H.size) cw ⟨Pc0.blind, fun U hU hW => ⟨rfl, by rw [hU], by rw [hU]; exact hPc, X.2.2.2.1.warm hW, hDc, hZc U hU hW⟩⟩ rfl hlen hl.1 hst (lv_room hW) hdg hcs
theorem r_runIN {host : String} (X : Cx p s m meth c args cc nL ret own Ts D t A) (hw : Wd D A s.heap ws H locs) (ct : Ct l y yw fr lo mc ms (.ref b :: As) D t wc Qc) (hp : ws.Perm (wc ++ wr))
    (cw : va_CN R s args own index y host bytes maxL none yw ({ frames := fr, cells := mc, slots := ms, locals := lo }) mc ms n) (hy : y.name = "<init>") (hins : (Cond.instanceMethod y).before args s = true) (hlen : As.length = n) (hl : lv_has ls nL lv) (hst : st0 = As.reverse ++ .ref b :: rest) (hW : (rest.map fun v => v.category).sum ≤ 8) (hdg : decode cc pc = .ok (.invokespecial index, 3)) (hcs : cells + mc ≤ R.cells ∧ slots + ms ≤ R.slots) :
    va_Run p l e R s m args below meth c H locs cells slots mc ms (F0 m pc ls st0) rest (Qc H.size (Value.ref b :: As).toArray) (va_A wc H.size) := by
  obtain ⟨hPc, hDc, hFc⟩ := hw.cut hp
  have hZc : ∀ U : State, U.heap = H → s.WarmedH U.vm → ZA (va_A wc H.size) U U.heap := fun U hU hW => by rw [hU]; exact ZA.to X.2.2.2.2.2 hw.2.2.2.1 hW.alike (fun q h => hFc q h (fun z hz => X.2.2.2.2.1 z (Nat.le_trans hw.2.2.1 hz)))
  exact va_runIN X.1 (ct H.size) ⟨cw, hy, hins⟩ ⟨Pc0.blind, fun U hU hW => ⟨rfl, by rw [hU], by rw [hU]; exact hPc, X.2.2.2.1.warm hW, hDc, hZc U hU hW⟩⟩ rfl hlen hl.1 hst (lv_room hW) hdg hcs
theorem r_obj (X : Cx p s m meth c args cc nL ret own Ts D t A) (hl : lv_has ls nL lv) (k1 : Cond.methodLink own index objectInit ∈ Ts) (k2 : Cond.instanceMethod objectInit ∈ Ts) (k3 : Cond.code objectInit ⟨#[0xb1]⟩ 1 none ∈ Ts) (hdg : decode cc pc = .ok (.invokespecial index, 3)) (hf : 1 ≤ R.frames) (hlo : (rest.map fun v => v.category).sum + 12 ≤ R.locals)
    (kk : W p l e R s m args below meth c H locs cells slots Q (F0 m (pc + 3) ls rest)) : W p l e R s m args below meth c H locs cells slots Q (F0 m pc ls (.ref a :: rest)) := by
  have hts := X.1.2.2.2.2
  refine W.objInit (g := F0 m pc ls (.ref a :: rest)) X.1.1 X.1.2.1 X.1.2.2.2.1 (hts _ k1) (hts _ k2) (hts _ k3) rfl (by rw [X.1.2.2.1]; exact hl.1) rfl hdg hf ?_ kk
  show 2 * 0 + _ + 12 ≤ _
  omega
end RC

/-! X0_init -/
theorem ob1_X0_init : Cond.methodLink RX0 3 objectInit ∈ wsX0_init := List.mem_of_getElem? (i := 1) rfl
theorem ob2_X0_init : Cond.instanceMethod objectInit ∈ wsX0_init := List.mem_of_getElem? (i := 2) rfl
theorem ob3_X0_init : Cond.code objectInit ⟨#[0xb1]⟩ 1 none ∈ wsX0_init := List.mem_of_getElem? (i := 3) rfl
theorem in_X0_init_X0 : ∀ w ∈ u_ws RX0 TX0 8, w ∈ wsX0_init := fun w h => (List.mem_cons_of_mem _ (List.mem_append_right _ h))
theorem fl_X0_init_9 : Cond.fieldLink RX0 9 "TwoFacedTiles$Board" "rows" "I" ∈ wsX0_init := List.mem_of_getElem? (i := 4) rfl
theorem fl_X0_init_15 : Cond.fieldLink RX0 15 "TwoFacedTiles$Board" "columns" "I" ∈ wsX0_init := List.mem_of_getElem? (i := 5) rfl
theorem fl_X0_init_18 : Cond.fieldLink RX0 18 "TwoFacedTiles$Board" "rule" "I" ∈ wsX0_init := List.mem_of_getElem? (i := 6) rfl
theorem fl_X0_init_21 : Cond.fieldLink RX0 21 "TwoFacedTiles$Board" "tiles" "I" ∈ wsX0_init := List.mem_of_getElem? (i := 7) rfl
theorem fl_X0_init_24 : Cond.fieldLink RX0 24 "TwoFacedTiles$Board" "fixed" "I" ∈ wsX0_init := List.mem_of_getElem? (i := 8) rfl
theorem arI_X0_init : Cond.arrayClass .int ∈ wsX0_init := List.mem_of_getElem? (i := 9) rfl
theorem fl_X0_init_27 : Cond.fieldLink RX0 27 "TwoFacedTiles$Board" "placings" "[I" ∈ wsX0_init := List.mem_of_getElem? (i := 10) rfl
theorem fl_X0_init_31 : Cond.fieldLink RX0 31 "TwoFacedTiles$Board" "places" "[I" ∈ wsX0_init := List.mem_of_getElem? (i := 11) rfl
theorem fl_X0_init_34 : Cond.fieldLink RX0 34 "TwoFacedTiles$Board" "looks" "[I" ∈ wsX0_init := List.mem_of_getElem? (i := 12) rfl
set_option maxHeartbeats 8000000 in
set_option maxRecDepth 100000 in
theorem c_X0_init (l : Launch) (D : va_G) (t : T3) (h0 : Nat) : Ct l yX0_init wsX0_init 1 60 3 120 [.ref h0] D t ([(h0, .inr (0, [.int 0, .int 0, .int 0, .int 0, .int 0, .null, .null, .null]))]) (fun sz => Qv D ([(h0, .inr (0, [.int 0, .int 0, .int 0, .int 0, .int 0, .null, .null, .null]))]) (fun (u : BA × BV) => bW t u.1 u.2) (fun u => BA.o u.1 = h0 ∧ u.2 = ((1, 1, 0, 0, 0, (fun _ => 0), (fun _ => 0), (fun _ => 0)) : BV)) sz) := by
  refine Ct.of (Qf := fun _ A => va_Qv (fun (u : BA × BV) => BA.o u.1 = h0 ∧ u.2 = ((1, 1, 0, 0, 0, (fun _ => 0), (fun _ => 0), (fun _ => 0)) : BV)) (B1 D (fun (u : BA × BV) => bW t u.1 u.2) A) A) cX0_init 1 none (by decide) rfl (Nat.le_of_ble_eq_true rfl) ?_
  intro p e s m below meth c A ls hAe hin X hw hl
  generalize ([.ref h0] : List Value).toArray = args at X ⊢
  have hl : lv_has ls 1 [(0, .ref h0)] := hl
  have hin : meth.name = "<init>" := hin
  have hx := X.1.1
  have hb := X.1.2.1
  refine lv_aload_n hx hb dX0_init_0 rfl (lv_at hl 0 rfl) ?_
  refine r_obj X hl ob1_X0_init ob2_X0_init ob3_X0_init dX0_init_1 (Nat.le_of_ble_eq_true rfl) (Nat.le_of_ble_eq_true rfl) ?_
  refine lv_aload_n hx hb dX0_init_4 rfl (lv_at hl 0 rfl) ?_
  refine lv_iconst (v := 1) hx hb dX0_init_5 (by decide) ?_
  refine r_put (ci := 0) (C := RX0) (T := TX0) (N := 8) (v := .int 1) (ws' := ([(h0, .inr (0, [.int 1, .int 0, .int 0, .int 0, .int 0, .null, .null, .null]))])) X hw 0 rfl rfl 0 (by decide) in_X0_init_X0 tyX0 tyX0_ok nmX0 fl_X0_init_9 rfl rfl rfl (Nat.le_of_ble_eq_true rfl) rfl dX0_init_6 (fun H locs hw => ?_)
  refine lv_aload_n hx hb dX0_init_9 rfl (lv_at hl 0 rfl) ?_
  refine lv_iconst (v := 1) hx hb dX0_init_10 (by decide) ?_
  refine r_put (ci := 0) (C := RX0) (T := TX0) (N := 8) (v := .int 1) (ws' := ([(h0, .inr (0, [.int 1, .int 1, .int 0, .int 0, .int 0, .null, .null, .null]))])) X hw 0 rfl rfl 1 (by decide) in_X0_init_X0 tyX0 tyX0_ok nmX0 fl_X0_init_15 rfl rfl rfl (Nat.le_of_ble_eq_true rfl) rfl dX0_init_11 (fun H locs hw => ?_)
  refine lv_aload_n hx hb dX0_init_14 rfl (lv_at hl 0 rfl) ?_
  refine lv_iconst (v := 0) hx hb dX0_init_15 (by decide) ?_
  refine r_put (ci := 0) (C := RX0) (T := TX0) (N := 8) (v := .int 0) (ws' := ([(h0, .inr (0, [.int 1, .int 1, .int 0, .int 0, .int 0, .null, .null, .null]))])) X hw 0 rfl rfl 2 (by decide) in_X0_init_X0 tyX0 tyX0_ok nmX0 fl_X0_init_18 rfl rfl rfl (Nat.le_of_ble_eq_true rfl) rfl dX0_init_16 (fun H locs hw => ?_)
  refine lv_aload_n hx hb dX0_init_19 rfl (lv_at hl 0 rfl) ?_
  refine lv_iconst (v := 0) hx hb dX0_init_20 (by decide) ?_
  refine r_put (ci := 0) (C := RX0) (T := TX0) (N := 8) (v := .int 0) (ws' := ([(h0, .inr (0, [.int 1, .int 1, .int 0, .int 0, .int 0, .null, .null, .null]))])) X hw 0 rfl rfl 3 (by decide) in_X0_init_X0 tyX0 tyX0_ok nmX0 fl_X0_init_21 rfl rfl rfl (Nat.le_of_ble_eq_true rfl) rfl dX0_init_21 (fun H locs hw => ?_)
  refine lv_aload_n hx hb dX0_init_24 rfl (lv_at hl 0 rfl) ?_
  refine lv_iconst (v := 0) hx hb dX0_init_25 (by decide) ?_
  refine r_put (ci := 0) (C := RX0) (T := TX0) (N := 8) (v := .int 0) (ws' := ([(h0, .inr (0, [.int 1, .int 1, .int 0, .int 0, .int 0, .null, .null, .null]))])) X hw 0 rfl rfl 4 (by decide) in_X0_init_X0 tyX0 tyX0_ok nmX0 fl_X0_init_24 rfl rfl rfl (Nat.le_of_ble_eq_true rfl) rfl dX0_init_26 (fun H locs hw => ?_)
  refine lv_aload_n hx hb dX0_init_29 rfl (lv_at hl 0 rfl) ?_
  refine lv_bipush (v := 12) hx hb dX0_init_30 (by decide) ?_
  refine r_newI X hw arI_X0_init (by decide) (N := 12) (by decide) (by decide) (Nat.le_of_ble_eq_true rfl) (Nat.le_of_ble_eq_true rfl) (wn := fun q_1 => ([(h0, .inr (0, [.int 1, .int 1, .int 0, .int 0, .int 0, .null, .null, .null]))] ++ ([(q_1, .inl (t.1, 12, .inl (fun _ => 0)))]))) (fun q => rfl) dX0_init_32 (fun q_1 H hw => ?_)
  refine r_putF (ci := 0) (C := RX0) (T := TX0) (N := 8) (v := .ref q_1) (ws' := ([(h0, .inr (0, [.int 1, .int 1, .int 0, .int 0, .int 0, .ref q_1, .null, .null]))] ++ ([(q_1, .inl (t.1, 12, .inl (fun _ => 0)))]))) X hin hw 0 rfl rfl 5 (by decide) in_X0_init_X0 tyX0 tyX0_ok nmX0 fl_X0_init_27 rfl rfl rfl rfl (Nat.le_of_ble_eq_true rfl) rfl dX0_init_34 (fun H locs hw => ?_)
  refine lv_aload_n hx hb dX0_init_37 rfl (lv_at hl 0 rfl) ?_
  refine lv_bipush (v := 12) hx hb dX0_init_38 (by decide) ?_
  refine r_newI X hw arI_X0_init (by decide) (N := 12) (by decide) (by decide) (Nat.le_of_ble_eq_true rfl) (Nat.le_of_ble_eq_true rfl) (wn := fun q_2 => ([(h0, .inr (0, [.int 1, .int 1, .int 0, .int 0, .int 0, .ref q_1, .null, .null]))] ++ ([(q_1, .inl (t.1, 12, .inl (fun _ => 0)))] ++ ([(q_2, .inl (t.1, 12, .inl (fun _ => 0)))])))) (fun q => rfl) dX0_init_40 (fun q_2 H hw => ?_)
  refine r_putF (ci := 0) (C := RX0) (T := TX0) (N := 8) (v := .ref q_2) (ws' := ([(h0, .inr (0, [.int 1, .int 1, .int 0, .int 0, .int 0, .ref q_1, .ref q_2, .null]))] ++ ([(q_1, .inl (t.1, 12, .inl (fun _ => 0)))] ++ ([(q_2, .inl (t.1, 12, .inl (fun _ => 0)))])))) X hin hw 0 rfl rfl 6 (by decide) in_X0_init_X0 tyX0 tyX0_ok nmX0 fl_X0_init_31 rfl rfl rfl rfl (Nat.le_of_ble_eq_true rfl) rfl dX0_init_42 (fun H locs hw => ?_)
  refine lv_aload_n hx hb dX0_init_45 rfl (lv_at hl 0 rfl) ?_
  refine lv_bipush (v := 96) hx hb dX0_init_46 (by decide) ?_
  refine r_newI X hw arI_X0_init (by decide) (N := 96) (by decide) (by decide) (Nat.le_of_ble_eq_true rfl) (Nat.le_of_ble_eq_true rfl) (wn := fun q_3 => ([(h0, .inr (0, [.int 1, .int 1, .int 0, .int 0, .int 0, .ref q_1, .ref q_2, .null]))] ++ ([(q_1, .inl (t.1, 12, .inl (fun _ => 0)))] ++ ([(q_2, .inl (t.1, 12, .inl (fun _ => 0)))] ++ ([(q_3, .inl (t.1, 96, .inl (fun _ => 0)))]))))) (fun q => rfl) dX0_init_48 (fun q_3 H hw => ?_)
  refine r_putF (ci := 0) (C := RX0) (T := TX0) (N := 8) (v := .ref q_3) (ws' := ([(h0, .inr (0, [.int 1, .int 1, .int 0, .int 0, .int 0, .ref q_1, .ref q_2, .ref q_3]))] ++ ([(q_1, .inl (t.1, 12, .inl (fun _ => 0)))] ++ ([(q_2, .inl (t.1, 12, .inl (fun _ => 0)))] ++ ([(q_3, .inl (t.1, 96, .inl (fun _ => 0)))]))))) X hin hw 0 rfl rfl 7 (by decide) in_X0_init_X0 tyX0 tyX0_ok nmX0 fl_X0_init_34 rfl rfl rfl rfl (Nat.le_of_ble_eq_true rfl) rfl dX0_init_50 (fun H locs hw => ?_)
  have hw : Wd D A s.heap (bW t (h0, q_1, q_2, q_3) (1, 1, 0, 0, 0, (fun _ => 0), (fun _ => 0), (fun _ => 0))) H locs := hw
  exact e_v (w1 := fun (u : BA × BV) => bW t u.1 u.2) X ((h0, q_1, q_2, q_3), (1, 1, 0, 0, 0, (fun _ => 0), (fun _ => 0), (fun _ => 0))) hw ⟨rfl, rfl⟩ dX0_init_53
/-! X1_init -/
theorem ob1_X1_init : Cond.methodLink RX1 1 objectInit ∈ wsX1_init := List.mem_of_getElem? (i := 1) rfl
theorem ob2_X1_init : Cond.instanceMethod objectInit ∈ wsX1_init := List.mem_of_getElem? (i := 2) rfl
theorem ob3_X1_init : Cond.code objectInit ⟨#[0xb1]⟩ 1 none ∈ wsX1_init := List.mem_of_getElem? (i := 3) rfl
theorem in_X1_init_X1 : ∀ w ∈ u_ws RX1 TX1 3, w ∈ wsX1_init := fun w h => (List.mem_cons_of_mem _ (List.mem_append_right _ h))
theorem fl_X1_init_7 : Cond.fieldLink RX1 7 "TwoFacedTiles$Draws" "seed" "I" ∈ wsX1_init := List.mem_of_getElem? (i := 4) rfl
theorem fl_X1_init_13 : Cond.fieldLink RX1 13 "TwoFacedTiles$Draws" "colors" "I" ∈ wsX1_init := List.mem_of_getElem? (i := 5) rfl
theorem fl_X1_init_16 : Cond.fieldLink RX1 16 "TwoFacedTiles$Draws" "rest" "I" ∈ wsX1_init := List.mem_of_getElem? (i := 6) rfl
set_option maxHeartbeats 8000000 in
set_option maxRecDepth 100000 in
theorem c_X1_init (l : Launch) (D : va_G) (t : T3) (h0 : Nat) : Ct l yX1_init wsX1_init 1 60 0 0 [.ref h0] D t ([(h0, .inr (1, [.int 0, .int 0, .int 0]))]) (fun sz => Qv D ([(h0, .inr (1, [.int 0, .int 0, .int 0]))]) (fun (u : Nat × DV) => dW t u.1 u.2) (fun u => u.1 = h0 ∧ u.2 = ((1, 1, 1) : DV)) sz) := by
  refine Ct.of (Qf := fun _ A => va_Qv (fun (u : Nat × DV) => u.1 = h0 ∧ u.2 = ((1, 1, 1) : DV)) (B1 D (fun (u : Nat × DV) => dW t u.1 u.2) A) A) cX1_init 1 none (by decide) rfl (Nat.le_of_ble_eq_true rfl) ?_
  intro p e s m below meth c A ls hAe hin X hw hl
  generalize ([.ref h0] : List Value).toArray = args at X ⊢
  have hl : lv_has ls 1 [(0, .ref h0)] := hl
  have hin : meth.name = "<init>" := hin
  have hx := X.1.1
  have hb := X.1.2.1
  refine lv_aload_n hx hb dX1_init_0 rfl (lv_at hl 0 rfl) ?_
  refine r_obj X hl ob1_X1_init ob2_X1_init ob3_X1_init dX1_init_1 (Nat.le_of_ble_eq_true rfl) (Nat.le_of_ble_eq_true rfl) ?_
  refine lv_aload_n hx hb dX1_init_4 rfl (lv_at hl 0 rfl) ?_
  refine lv_iconst (v := 1) hx hb dX1_init_5 (by decide) ?_
  refine r_put (ci := 1) (C := RX1) (T := TX1) (N := 3) (v := .int 1) (ws' := ([(h0, .inr (1, [.int 1, .int 0, .int 0]))])) X hw 0 rfl rfl 0 (by decide) in_X1_init_X1 tyX1 tyX1_ok nmX1 fl_X1_init_7 rfl rfl rfl (Nat.le_of_ble_eq_true rfl) rfl dX1_init_6 (fun H locs hw => ?_)
  refine lv_aload_n hx hb dX1_init_9 rfl (lv_at hl 0 rfl) ?_
  refine lv_iconst (v := 1) hx hb dX1_init_10 (by decide) ?_
  refine r_put (ci := 1) (C := RX1) (T := TX1) (N := 3) (v := .int 1) (ws' := ([(h0, .inr (1, [.int 1, .int 1, .int 0]))])) X hw 0 rfl rfl 1 (by decide) in_X1_init_X1 tyX1 tyX1_ok nmX1 fl_X1_init_13 rfl rfl rfl (Nat.le_of_ble_eq_true rfl) rfl dX1_init_11 (fun H locs hw => ?_)
  refine lv_aload_n hx hb dX1_init_14 rfl (lv_at hl 0 rfl) ?_
  refine lv_iconst (v := 1) hx hb dX1_init_15 (by decide) ?_
  refine r_put (ci := 1) (C := RX1) (T := TX1) (N := 3) (v := .int 1) (ws' := ([(h0, .inr (1, [.int 1, .int 1, .int 1]))])) X hw 0 rfl rfl 2 (by decide) in_X1_init_X1 tyX1 tyX1_ok nmX1 fl_X1_init_16 rfl rfl rfl (Nat.le_of_ble_eq_true rfl) rfl dX1_init_16 (fun H locs hw => ?_)
  have hw : Wd D A s.heap (dW t h0 (1, 1, 1)) H locs := hw
  exact e_v (w1 := fun (u : Nat × DV) => dW t u.1 u.2) X (h0, (1, 1, 1)) hw ⟨rfl, rfl⟩ dX1_init_19
/-! X3_init -/
theorem ob1_X3_init : Cond.methodLink RX3 3 objectInit ∈ wsX3_init := List.mem_of_getElem? (i := 1) rfl
theorem ob2_X3_init : Cond.instanceMethod objectInit ∈ wsX3_init := List.mem_of_getElem? (i := 2) rfl
theorem ob3_X3_init : Cond.code objectInit ⟨#[0xb1]⟩ 1 none ∈ wsX3_init := List.mem_of_getElem? (i := 3) rfl
theorem in_X3_init_X3 : ∀ w ∈ u_ws RX3 TX3 4, w ∈ wsX3_init := fun w h => (List.mem_cons_of_mem _ (List.mem_append_right _ h))
theorem fl_X3_init_9 : Cond.fieldLink RX3 9 "TwoFacedTiles$Needs" "mustBeZero" "I" ∈ wsX3_init := List.mem_of_getElem? (i := 4) rfl
theorem fl_X3_init_15 : Cond.fieldLink RX3 15 "TwoFacedTiles$Needs" "mustAgree" "I" ∈ wsX3_init := List.mem_of_getElem? (i := 5) rfl
theorem fl_X3_init_18 : Cond.fieldLink RX3 18 "TwoFacedTiles$Needs" "wanted" "I" ∈ wsX3_init := List.mem_of_getElem? (i := 6) rfl
theorem fl_X3_init_21 : Cond.fieldLink RX3 21 "TwoFacedTiles$Needs" "forbiddenZero" "Z" ∈ wsX3_init := List.mem_of_getElem? (i := 7) rfl
set_option maxHeartbeats 8000000 in
set_option maxRecDepth 100000 in
theorem c_X3_init (l : Launch) (D : va_G) (t : T3) (h0 : Nat) : Ct l yX3_init wsX3_init 1 60 0 0 [.ref h0] D t ([(h0, .inr (3, [.int 0, .int 0, .int 0, .int 0]))]) (fun sz => Qv D ([(h0, .inr (3, [.int 0, .int 0, .int 0, .int 0]))]) (fun (u : Nat × NV) => nW t u.1 u.2) (fun u => u.1 = h0 ∧ u.2 = ((0, 0, 0, 0) : NV)) sz) := by
  refine Ct.of (Qf := fun _ A => va_Qv (fun (u : Nat × NV) => u.1 = h0 ∧ u.2 = ((0, 0, 0, 0) : NV)) (B1 D (fun (u : Nat × NV) => nW t u.1 u.2) A) A) cX3_init 1 none (by decide) rfl (Nat.le_of_ble_eq_true rfl) ?_
  intro p e s m below meth c A ls hAe hin X hw hl
  generalize ([.ref h0] : List Value).toArray = args at X ⊢
  have hl : lv_has ls 1 [(0, .ref h0)] := hl
  have hin : meth.name = "<init>" := hin
  have hx := X.1.1
  have hb := X.1.2.1
  refine lv_aload_n hx hb dX3_init_0 rfl (lv_at hl 0 rfl) ?_
  refine r_obj X hl ob1_X3_init ob2_X3_init ob3_X3_init dX3_init_1 (Nat.le_of_ble_eq_true rfl) (Nat.le_of_ble_eq_true rfl) ?_
  refine lv_aload_n hx hb dX3_init_4 rfl (lv_at hl 0 rfl) ?_
  refine lv_iconst (v := 0) hx hb dX3_init_5 (by decide) ?_
  refine r_put (ci := 3) (C := RX3) (T := TX3) (N := 4) (v := .int 0) (ws' := ([(h0, .inr (3, [.int 0, .int 0, .int 0, .int 0]))])) X hw 0 rfl rfl 0 (by decide) in_X3_init_X3 tyX3 tyX3_ok nmX3 fl_X3_init_9 rfl rfl rfl (Nat.le_of_ble_eq_true rfl) rfl dX3_init_6 (fun H locs hw => ?_)
  refine lv_aload_n hx hb dX3_init_9 rfl (lv_at hl 0 rfl) ?_
  refine lv_iconst (v := 0) hx hb dX3_init_10 (by decide) ?_
  refine r_put (ci := 3) (C := RX3) (T := TX3) (N := 4) (v := .int 0) (ws' := ([(h0, .inr (3, [.int 0, .int 0, .int 0, .int 0]))])) X hw 0 rfl rfl 1 (by decide) in_X3_init_X3 tyX3 tyX3_ok nmX3 fl_X3_init_15 rfl rfl rfl (Nat.le_of_ble_eq_true rfl) rfl dX3_init_11 (fun H locs hw => ?_)
  refine lv_aload_n hx hb dX3_init_14 rfl (lv_at hl 0 rfl) ?_
  refine lv_iconst (v := 0) hx hb dX3_init_15 (by decide) ?_
  refine r_put (ci := 3) (C := RX3) (T := TX3) (N := 4) (v := .int 0) (ws' := ([(h0, .inr (3, [.int 0, .int 0, .int 0, .int 0]))])) X hw 0 rfl rfl 2 (by decide) in_X3_init_X3 tyX3 tyX3_ok nmX3 fl_X3_init_18 rfl rfl rfl (Nat.le_of_ble_eq_true rfl) rfl dX3_init_16 (fun H locs hw => ?_)
  refine lv_aload_n hx hb dX3_init_19 rfl (lv_at hl 0 rfl) ?_
  refine lv_iconst (v := 0) hx hb dX3_init_20 (by decide) ?_
  refine r_put (ci := 3) (C := RX3) (T := TX3) (N := 4) (v := .int 0) (ws' := ([(h0, .inr (3, [.int 0, .int 0, .int 0, .int 0]))])) X hw 0 rfl rfl 3 (by decide) in_X3_init_X3 tyX3 tyX3_ok nmX3 fl_X3_init_21 rfl rfl rfl (Nat.le_of_ble_eq_true rfl) rfl dX3_init_21 (fun H locs hw => ?_)
  have hw : Wd D A s.heap (nW t h0 (0, 0, 0, 0)) H locs := hw
  exact e_v (w1 := fun (u : Nat × NV) => nW t u.1 u.2) X (h0, (0, 0, 0, 0)) hw ⟨rfl, rfl⟩ dX3_init_24
/-! X5_init -/
theorem ob1_X5_init : Cond.methodLink RX5 3 objectInit ∈ wsX5_init := List.mem_of_getElem? (i := 1) rfl
theorem ob2_X5_init : Cond.instanceMethod objectInit ∈ wsX5_init := List.mem_of_getElem? (i := 2) rfl
theorem ob3_X5_init : Cond.code objectInit ⟨#[0xb1]⟩ 1 none ∈ wsX5_init := List.mem_of_getElem? (i := 3) rfl
theorem arI_X5_init : Cond.arrayClass .int ∈ wsX5_init := List.mem_of_getElem? (i := 4) rfl
theorem in_X5_init_X5 : ∀ w ∈ u_ws RX5 TX5 2, w ∈ wsX5_init := fun w h => (List.mem_cons_of_mem _ (List.mem_append_right _ h))
theorem fl_X5_init_9 : Cond.fieldLink RX5 9 "TwoFacedTiles$Text" "codes" "[I" ∈ wsX5_init := List.mem_of_getElem? (i := 5) rfl
theorem fl_X5_init_15 : Cond.fieldLink RX5 15 "TwoFacedTiles$Text" "length" "I" ∈ wsX5_init := List.mem_of_getElem? (i := 6) rfl
set_option maxHeartbeats 8000000 in
set_option maxRecDepth 100000 in
theorem c_X5_init (l : Launch) (D : va_G) (t : T3) (h0 : Nat) : Ct l yX5_init wsX5_init 1 60 1 60 [.ref h0] D t ([(h0, .inr (5, [.null, .int 0]))]) (fun sz => Qv D ([(h0, .inr (5, [.null, .int 0]))]) (fun (u : TA × TV) => tW t u.1 u.2) (fun u => TA.o u.1 = h0 ∧ u.2 = (((fun _ => 0), 0) : TV)) sz) := by
  refine Ct.of (Qf := fun _ A => va_Qv (fun (u : TA × TV) => TA.o u.1 = h0 ∧ u.2 = (((fun _ => 0), 0) : TV)) (B1 D (fun (u : TA × TV) => tW t u.1 u.2) A) A) cX5_init 1 none (by decide) rfl (Nat.le_of_ble_eq_true rfl) ?_
  intro p e s m below meth c A ls hAe hin X hw hl
  generalize ([.ref h0] : List Value).toArray = args at X ⊢
  have hl : lv_has ls 1 [(0, .ref h0)] := hl
  have hin : meth.name = "<init>" := hin
  have hx := X.1.1
  have hb := X.1.2.1
  refine lv_aload_n hx hb dX5_init_0 rfl (lv_at hl 0 rfl) ?_
  refine r_obj X hl ob1_X5_init ob2_X5_init ob3_X5_init dX5_init_1 (Nat.le_of_ble_eq_true rfl) (Nat.le_of_ble_eq_true rfl) ?_
  refine lv_aload_n hx hb dX5_init_4 rfl (lv_at hl 0 rfl) ?_
  refine lv_bipush (v := 60) hx hb dX5_init_5 (by decide) ?_
  refine r_newI X hw arI_X5_init (by decide) (N := 60) (by decide) (by decide) (Nat.le_of_ble_eq_true rfl) (Nat.le_of_ble_eq_true rfl) (wn := fun q_1 => ([(h0, .inr (5, [.null, .int 0]))] ++ ([(q_1, .inl (t.1, 60, .inl (fun _ => 0)))]))) (fun q => rfl) dX5_init_7 (fun q_1 H hw => ?_)
  refine r_putF (ci := 5) (C := RX5) (T := TX5) (N := 2) (v := .ref q_1) (ws' := ([(h0, .inr (5, [.ref q_1, .int 0]))] ++ ([(q_1, .inl (t.1, 60, .inl (fun _ => 0)))]))) X hin hw 0 rfl rfl 0 (by decide) in_X5_init_X5 tyX5 tyX5_ok nmX5 fl_X5_init_9 rfl rfl rfl rfl (Nat.le_of_ble_eq_true rfl) rfl dX5_init_9 (fun H locs hw => ?_)
  refine lv_aload_n hx hb dX5_init_12 rfl (lv_at hl 0 rfl) ?_
  refine lv_iconst (v := 0) hx hb dX5_init_13 (by decide) ?_
  refine r_put (ci := 5) (C := RX5) (T := TX5) (N := 2) (v := .int 0) (ws' := ([(h0, .inr (5, [.ref q_1, .int 0]))] ++ ([(q_1, .inl (t.1, 60, .inl (fun _ => 0)))]))) X hw 0 rfl rfl 1 (by decide) in_X5_init_X5 tyX5 tyX5_ok nmX5 fl_X5_init_15 rfl rfl rfl (Nat.le_of_ble_eq_true rfl) rfl dX5_init_14 (fun H locs hw => ?_)
  have hw : Wd D A s.heap (tW t (h0, q_1) ((fun _ => 0), 0)) H locs := hw
  exact e_v (w1 := fun (u : TA × TV) => tW t u.1 u.2) X ((h0, q_1), ((fun _ => 0), 0)) hw ⟨rfl, rfl⟩ dX5_init_17
/-! X2_init -/
theorem ob1_X2_init : Cond.methodLink RX2 3 objectInit ∈ wsX2_init := List.mem_of_getElem? (i := 1) rfl
theorem ob2_X2_init : Cond.instanceMethod objectInit ∈ wsX2_init := List.mem_of_getElem? (i := 2) rfl
theorem ob3_X2_init : Cond.code objectInit ⟨#[0xb1]⟩ 1 none ∈ wsX2_init := List.mem_of_getElem? (i := 3) rfl
theorem cl9_X2_init : Cond.classLink RX2 9 RX0 ∈ wsX2_init := List.mem_of_getElem? (i := 4) rfl
theorem in_X2_init_X2 : ∀ w ∈ u_ws RX2 TX2 3, w ∈ wsX2_init := fun w h => (List.mem_cons_of_mem _ (List.mem_append_left _ (List.mem_append_right _ h)))
theorem fl_X2_init_11 : Cond.fieldLink RX2 11 "TwoFacedTiles$History" "states" "[LTwoFacedTiles$Board;" ∈ wsX2_init := List.mem_of_getElem? (i := 5) rfl
theorem fl_X2_init_17 : Cond.fieldLink RX2 17 "TwoFacedTiles$History" "oldest" "I" ∈ wsX2_init := List.mem_of_getElem? (i := 6) rfl
theorem fl_X2_init_21 : Cond.fieldLink RX2 21 "TwoFacedTiles$History" "kept" "I" ∈ wsX2_init := List.mem_of_getElem? (i := 7) rfl
theorem in_X2_init_X0 : ∀ w ∈ u_ws RX0 TX0 8, w ∈ wsX2_init := fun w h => (List.mem_cons_of_mem _ (List.mem_append_right _ h))
theorem imX0_X2_init : Cond.instantiable RX0 8 ∈ wsX2_init := List.mem_of_getElem? (i := 8) rfl
theorem iiX0_X2_init : Cond.initialized RX0 ∈ wsX2_init := List.mem_of_getElem? (i := 9) rfl
theorem inX0_init_X2_init : Cond.instanceMethod yX0_init ∈ wsX2_init := List.mem_of_getElem? (i := 10) rfl
set_option maxHeartbeats 8000000 in
set_option maxRecDepth 100000 in
theorem c_X2_init (l : Launch) (D : va_G) (t : T3) (h0 : Nat) : Ct l yX2_init wsX2_init 2 80 33 1032 [.ref h0] D t ([(h0, .inr (2, [.null, .int 0, .int 0]))]) (fun sz => Qv D ([(h0, .inr (2, [.null, .int 0, .int 0]))]) (fun (u : HA × HV) => hW t u.1 u.2) (fun u => HA.o u.1 = h0 ∧ u.2 = (((fun _ => ((1, 1, 0, 0, 0, (fun _ => 0), (fun _ => 0), (fun _ => 0)) : BV)), 0, 0) : HV)) sz) := by
  refine Ct.of (Qf := fun _ A => va_Qv (fun (u : HA × HV) => HA.o u.1 = h0 ∧ u.2 = (((fun _ => ((1, 1, 0, 0, 0, (fun _ => 0), (fun _ => 0), (fun _ => 0)) : BV)), 0, 0) : HV)) (B1 D (fun (u : HA × HV) => hW t u.1 u.2) A) A) cX2_init 2 none (by decide) rfl (Nat.le_of_ble_eq_true rfl) ?_
  intro p e s m below meth c A ls hAe hin X hw hl
  generalize ([.ref h0] : List Value).toArray = args at X ⊢
  have hl : lv_has ls 2 [(0, .ref h0)] := hl
  have hin : meth.name = "<init>" := hin
  have hx := X.1.1
  have hb := X.1.2.1
  refine lv_aload_n hx hb dX2_init_0 rfl (lv_at hl 0 rfl) ?_
  refine r_obj X hl ob1_X2_init ob2_X2_init ob3_X2_init dX2_init_1 (Nat.le_of_ble_eq_true rfl) (Nat.le_of_ble_eq_true rfl) ?_
  refine lv_aload_n hx hb dX2_init_4 rfl (lv_at hl 0 rfl) ?_
  refine lv_bipush (v := 8) hx hb dX2_init_5 (by decide) ?_
  refine r_newQ X hw (C := RX0) 1 rfl (by decide) cl9_X2_init X.2.2.2.1.2.2.1.1 (by decide) (N := 8) (by decide) (by decide) (Nat.le_of_ble_eq_true rfl) (Nat.le_of_ble_eq_true rfl) (wn := fun q_1 => ([(h0, .inr (2, [.null, .int 0, .int 0]))] ++ ([(q_1, .inl (t.2.1, 8, .inr (.inr (.inr (.inr (fun _ => none))))))]))) (fun q => rfl) dX2_init_7 (fun q_1 H hw => ?_)
  refine r_putF (ci := 2) (C := RX2) (T := TX2) (N := 3) (v := .ref q_1) (ws' := ([(h0, .inr (2, [.ref q_1, .int 0, .int 0]))] ++ ([(q_1, .inl (t.2.1, 8, .inr (.inr (.inr (.inr (fun _ => none))))))]))) X hin hw 0 rfl rfl 0 (by decide) in_X2_init_X2 tyX2 tyX2_ok nmX2 fl_X2_init_11 rfl rfl rfl rfl (Nat.le_of_ble_eq_true rfl) rfl dX2_init_10 (fun H locs hw => ?_)
  refine lv_aload_n hx hb dX2_init_13 rfl (lv_at hl 0 rfl) ?_
  refine lv_iconst (v := 0) hx hb dX2_init_14 (by decide) ?_
  refine r_put (ci := 2) (C := RX2) (T := TX2) (N := 3) (v := .int 0) (ws' := ([(h0, .inr (2, [.ref q_1, .int 0, .int 0]))] ++ ([(q_1, .inl (t.2.1, 8, .inr (.inr (.inr (.inr (fun _ => none))))))]))) X hw 0 rfl rfl 1 (by decide) in_X2_init_X2 tyX2 tyX2_ok nmX2 fl_X2_init_17 rfl rfl rfl (Nat.le_of_ble_eq_true rfl) rfl dX2_init_15 (fun H locs hw => ?_)
  refine lv_aload_n hx hb dX2_init_18 rfl (lv_at hl 0 rfl) ?_
  refine lv_iconst (v := 0) hx hb dX2_init_19 (by decide) ?_
  refine r_put (ci := 2) (C := RX2) (T := TX2) (N := 3) (v := .int 0) (ws' := ([(h0, .inr (2, [.ref q_1, .int 0, .int 0]))] ++ ([(q_1, .inl (t.2.1, 8, .inr (.inr (.inr (.inr (fun _ => none))))))]))) X hw 0 rfl rfl 2 (by decide) in_X2_init_X2 tyX2 tyX2_ok nmX2 fl_X2_init_21 rfl rfl rfl (Nat.le_of_ble_eq_true rfl) rfl dX2_init_20 (fun H locs hw => ?_)
  refine lv_iconst (v := 0) hx hb dX2_init_23 (by decide) ?_
  refine lv_istore_n (lv' := [(1, .int 0), (0, .ref h0)]) hx hb dX2_init_24 rfl hl (by decide) rfl (fun ls hl => ?_)
  refine lv_iload_n hx hb dX2_init_25 rfl (lv_at hl 0 rfl) ?_
  refine lv_bipush (v := 8) hx hb dX2_init_26 (by decide) ?_
  refine lv_icmp_ge (tgt := 50) hx hb dX2_init_28 (by decide) (fun h9 => absurd h9 (by decide)) (fun _ => ?_)
  refine lv_aload_n hx hb dX2_init_31 rfl (lv_at hl 1 rfl) ?_
  refine r_get (ci := 2) (C := RX2) (T := TX2) (N := 3) X hw 0 rfl rfl 0 (by decide) in_X2_init_X2 fl_X2_init_11 (v := .ref q_1) rfl dX2_init_32 ?_
  refine lv_iload_n hx hb dX2_init_35 rfl (lv_at hl 0 rfl) ?_
  refine r_new X hw (ci := 0) (C := RX0) (T := TX0) (N := 8) (fs := [.int 0, .int 0, .int 0, .int 0, .int 0, .null, .null, .null]) in_X2_init_X0 tyX0 tyX0_ok cl9_X2_init imX0_X2_init iiX0_X2_init rfl (fun j hj => by rcases (show j = 0 ∨ j = 1 ∨ j = 2 ∨ j = 3 ∨ j = 4 ∨ j = 5 ∨ j = 6 ∨ j = 7 by omega) with rfl | rfl | rfl | rfl | rfl | rfl | rfl | rfl <;> rfl) (Nat.le_of_ble_eq_true rfl) (Nat.le_of_ble_eq_true rfl) (wn := fun q_2 => ([(h0, .inr (2, [.ref q_1, .int 0, .int 0]))] ++ ([(q_1, .inl (t.2.1, 8, .inr (.inr (.inr (.inr (fun _ => none))))))] ++ ([(q_2, .inr (0, [.int 0, .int 0, .int 0, .int 0, .int 0, .null, .null, .null]))])))) (fun q => rfl) dX2_init_36 (fun q_2 H hw => ?_)
  refine lv_dup hx hb dX2_init_39 rfl ?_
  refine r_cv X hw (pm_r (pm_r pm_0)) (wn := fun (u : BA × BV) => ([(h0, .inr (2, [.ref q_1, .int 0, .int 0]))] ++ ([(q_1, .inl (t.2.1, 8, .inr (.inr (.inr (.inr (fun _ => none))))))] ++ (bW t u.1 u.2)))) (fun u => (pm_r (pm_r pm_0)).symm) (r_runIN X hw (c_X0_init l D t q_2) (pm_r (pm_r pm_0)) (va_cnB 0 X.1.2.2.2.2 gX2_init_X0_init_n24 rfl rfl rfl (X.2.2.2.1.2.1 (RX2, 24, yX0_init, RX6) (by decide +kernel)) (X.1.2.2.2.2 _ iiX0_X2_init) (by decide +kernel) ⟨Nat.le_of_ble_eq_true rfl, Nat.le_of_ble_eq_true rfl⟩) rfl (X.1.2.2.2.2 _ inX0_init_X2_init) rfl hl rfl (Nat.le_of_ble_eq_true rfl) dX2_init_40 ⟨Nat.le_of_ble_eq_true rfl, Nat.le_of_ble_eq_true rfl⟩) (fun u H locs h hw2 => ?_)
  obtain ⟨zB_3, v9⟩ := u
  obtain ⟨h9, rfl⟩ : BA.o zB_3 = q_2 ∧ v9 = ((1, 1, 0, 0, 0, (fun _ => 0), (fun _ => 0), (fun _ => 0)) : BV) := h
  subst h9
  have hw := hw2
  refine r_aast X hw 1 1 2 0 rfl (r := (RX0, TX0, 8)) rfl rfl rfl (vpl rfl) (wn := ([(h0, .inr (2, [.ref q_1, .int 0, .int 0]))] ++ ([(q_1, .inl (t.2.1, 8, .inr (.inr (.inr (.inr (va_up (fun _ => none) 0 (some (BA.o zB_3))))))))] ++ (bW t zB_3 ((1, 1, 0, 0, 0, (fun _ => 0), (fun _ => 0), (fun _ => 0)) : BV))))) rfl dX2_init_43 (fun H locs hw => ?_)
  refine lv_iinc (v := 1) (lv' := [(1, .int 1), (0, .ref h0)]) hx hb dX2_init_44 hl (k := 0) rfl (by decide) (by decide) rfl (fun ls hl => ?_)
  refine lv_goto (tgt := 25) hx hb dX2_init_47 (by decide) ?_
  refine lv_iload_n hx hb dX2_init_25 rfl (lv_at hl 0 rfl) ?_
  refine lv_bipush (v := 8) hx hb dX2_init_26 (by decide) ?_
  refine lv_icmp_ge (tgt := 50) hx hb dX2_init_28 (by decide) (fun h9 => absurd h9 (by decide)) (fun _ => ?_)
  refine lv_aload_n hx hb dX2_init_31 rfl (lv_at hl 1 rfl) ?_
  refine r_get (ci := 2) (C := RX2) (T := TX2) (N := 3) X hw 0 rfl rfl 0 (by decide) in_X2_init_X2 fl_X2_init_11 (v := .ref q_1) rfl dX2_init_32 ?_
  refine lv_iload_n hx hb dX2_init_35 rfl (lv_at hl 0 rfl) ?_
  refine r_new X hw (ci := 0) (C := RX0) (T := TX0) (N := 8) (fs := [.int 0, .int 0, .int 0, .int 0, .int 0, .null, .null, .null]) in_X2_init_X0 tyX0 tyX0_ok cl9_X2_init imX0_X2_init iiX0_X2_init rfl (fun j hj => by rcases (show j = 0 ∨ j = 1 ∨ j = 2 ∨ j = 3 ∨ j = 4 ∨ j = 5 ∨ j = 6 ∨ j = 7 by omega) with rfl | rfl | rfl | rfl | rfl | rfl | rfl | rfl <;> rfl) (Nat.le_of_ble_eq_true rfl) (Nat.le_of_ble_eq_true rfl) (wn := fun q_4 => ([(h0, .inr (2, [.ref q_1, .int 0, .int 0]))] ++ ([(q_1, .inl (t.2.1, 8, .inr (.inr (.inr (.inr (va_up (fun _ => none) 0 (some (BA.o zB_3))))))))] ++ (bW t zB_3 ((1, 1, 0, 0, 0, (fun _ => 0), (fun _ => 0), (fun _ => 0)) : BV) ++ ([(q_4, .inr (0, [.int 0, .int 0, .int 0, .int 0, .int 0, .null, .null, .null]))]))))) (fun q => rfl) dX2_init_36 (fun q_4 H hw => ?_)
  refine lv_dup hx hb dX2_init_39 rfl ?_
  refine r_cv X hw (pm_r (pm_r (pm_r pm_0))) (wn := fun (u : BA × BV) => ([(h0, .inr (2, [.ref q_1, .int 0, .int 0]))] ++ ([(q_1, .inl (t.2.1, 8, .inr (.inr (.inr (.inr (va_up (fun _ => none) 0 (some (BA.o zB_3))))))))] ++ (bW t zB_3 ((1, 1, 0, 0, 0, (fun _ => 0), (fun _ => 0), (fun _ => 0)) : BV) ++ (bW t u.1 u.2))))) (fun u => (pm_r (pm_r (pm_r pm_0))).symm) (r_runIN X hw (c_X0_init l D t q_4) (pm_r (pm_r (pm_r pm_0))) (va_cnB 0 X.1.2.2.2.2 gX2_init_X0_init_n24 rfl rfl rfl (X.2.2.2.1.2.1 (RX2, 24, yX0_init, RX6) (by decide +kernel)) (X.1.2.2.2.2 _ iiX0_X2_init) (by decide +kernel) ⟨Nat.le_of_ble_eq_true rfl, Nat.le_of_ble_eq_true rfl⟩) rfl (X.1.2.2.2.2 _ inX0_init_X2_init) rfl hl rfl (Nat.le_of_ble_eq_true rfl) dX2_init_40 ⟨Nat.le_of_ble_eq_true rfl, Nat.le_of_ble_eq_true rfl⟩) (fun u H locs h hw2 => ?_)
  obtain ⟨zB_5, v9⟩ := u
  obtain ⟨h9, rfl⟩ : BA.o zB_5 = q_4 ∧ v9 = ((1, 1, 0, 0, 0, (fun _ => 0), (fun _ => 0), (fun _ => 0)) : BV) := h
  subst h9
  have hw := hw2
  refine r_aast X hw 1 1 6 0 rfl (r := (RX0, TX0, 8)) rfl rfl rfl (vpl rfl) (wn := ([(h0, .inr (2, [.ref q_1, .int 0, .int 0]))] ++ ([(q_1, .inl (t.2.1, 8, .inr (.inr (.inr (.inr (va_up (va_up (fun _ => none) 0 (some (BA.o zB_3))) 1 (some (BA.o zB_5))))))))] ++ (bW t zB_3 ((1, 1, 0, 0, 0, (fun _ => 0), (fun _ => 0), (fun _ => 0)) : BV) ++ (bW t zB_5 ((1, 1, 0, 0, 0, (fun _ => 0), (fun _ => 0), (fun _ => 0)) : BV)))))) rfl dX2_init_43 (fun H locs hw => ?_)
  refine lv_iinc (v := 2) (lv' := [(1, .int 2), (0, .ref h0)]) hx hb dX2_init_44 hl (k := 0) rfl (by decide) (by decide) rfl (fun ls hl => ?_)
  refine lv_goto (tgt := 25) hx hb dX2_init_47 (by decide) ?_
  refine lv_iload_n hx hb dX2_init_25 rfl (lv_at hl 0 rfl) ?_
  refine lv_bipush (v := 8) hx hb dX2_init_26 (by decide) ?_
  refine lv_icmp_ge (tgt := 50) hx hb dX2_init_28 (by decide) (fun h9 => absurd h9 (by decide)) (fun _ => ?_)
  refine lv_aload_n hx hb dX2_init_31 rfl (lv_at hl 1 rfl) ?_
  refine r_get (ci := 2) (C := RX2) (T := TX2) (N := 3) X hw 0 rfl rfl 0 (by decide) in_X2_init_X2 fl_X2_init_11 (v := .ref q_1) rfl dX2_init_32 ?_
  refine lv_iload_n hx hb dX2_init_35 rfl (lv_at hl 0 rfl) ?_
  refine r_new X hw (ci := 0) (C := RX0) (T := TX0) (N := 8) (fs := [.int 0, .int 0, .int 0, .int 0, .int 0, .null, .null, .null]) in_X2_init_X0 tyX0 tyX0_ok cl9_X2_init imX0_X2_init iiX0_X2_init rfl (fun j hj => by rcases (show j = 0 ∨ j = 1 ∨ j = 2 ∨ j = 3 ∨ j = 4 ∨ j = 5 ∨ j = 6 ∨ j = 7 by omega) with rfl | rfl | rfl | rfl | rfl | rfl | rfl | rfl <;> rfl) (Nat.le_of_ble_eq_true rfl) (Nat.le_of_ble_eq_true rfl) (wn := fun q_6 => ([(h0, .inr (2, [.ref q_1, .int 0, .int 0]))] ++ ([(q_1, .inl (t.2.1, 8, .inr (.inr (.inr (.inr (va_up (va_up (fun _ => none) 0 (some (BA.o zB_3))) 1 (some (BA.o zB_5))))))))] ++ (bW t zB_3 ((1, 1, 0, 0, 0, (fun _ => 0), (fun _ => 0), (fun _ => 0)) : BV) ++ (bW t zB_5 ((1, 1, 0, 0, 0, (fun _ => 0), (fun _ => 0), (fun _ => 0)) : BV) ++ ([(q_6, .inr (0, [.int 0, .int 0, .int 0, .int 0, .int 0, .null, .null, .null]))])))))) (fun q => rfl) dX2_init_36 (fun q_6 H hw => ?_)
  refine lv_dup hx hb dX2_init_39 rfl ?_
  refine r_cv X hw (pm_r (pm_r (pm_r (pm_r pm_0)))) (wn := fun (u : BA × BV) => ([(h0, .inr (2, [.ref q_1, .int 0, .int 0]))] ++ ([(q_1, .inl (t.2.1, 8, .inr (.inr (.inr (.inr (va_up (va_up (fun _ => none) 0 (some (BA.o zB_3))) 1 (some (BA.o zB_5))))))))] ++ (bW t zB_3 ((1, 1, 0, 0, 0, (fun _ => 0), (fun _ => 0), (fun _ => 0)) : BV) ++ (bW t zB_5 ((1, 1, 0, 0, 0, (fun _ => 0), (fun _ => 0), (fun _ => 0)) : BV) ++ (bW t u.1 u.2)))))) (fun u => (pm_r (pm_r (pm_r (pm_r pm_0)))).symm) (r_runIN X hw (c_X0_init l D t q_6) (pm_r (pm_r (pm_r (pm_r pm_0)))) (va_cnB 0 X.1.2.2.2.2 gX2_init_X0_init_n24 rfl rfl rfl (X.2.2.2.1.2.1 (RX2, 24, yX0_init, RX6) (by decide +kernel)) (X.1.2.2.2.2 _ iiX0_X2_init) (by decide +kernel) ⟨Nat.le_of_ble_eq_true rfl, Nat.le_of_ble_eq_true rfl⟩) rfl (X.1.2.2.2.2 _ inX0_init_X2_init) rfl hl rfl (Nat.le_of_ble_eq_true rfl) dX2_init_40 ⟨Nat.le_of_ble_eq_true rfl, Nat.le_of_ble_eq_true rfl⟩) (fun u H locs h hw2 => ?_)
  obtain ⟨zB_7, v9⟩ := u
  obtain ⟨h9, rfl⟩ : BA.o zB_7 = q_6 ∧ v9 = ((1, 1, 0, 0, 0, (fun _ => 0), (fun _ => 0), (fun _ => 0)) : BV) := h
  subst h9
  have hw := hw2
  refine r_aast X hw 1 1 10 0 rfl (r := (RX0, TX0, 8)) rfl rfl rfl (vpl rfl) (wn := ([(h0, .inr (2, [.ref q_1, .int 0, .int 0]))] ++ ([(q_1, .inl (t.2.1, 8, .inr (.inr (.inr (.inr (va_up (va_up (va_up (fun _ => none) 0 (some (BA.o zB_3))) 1 (some (BA.o zB_5))) 2 (some (BA.o zB_7))))))))] ++ (bW t zB_3 ((1, 1, 0, 0, 0, (fun _ => 0), (fun _ => 0), (fun _ => 0)) : BV) ++ (bW t zB_5 ((1, 1, 0, 0, 0, (fun _ => 0), (fun _ => 0), (fun _ => 0)) : BV) ++ (bW t zB_7 ((1, 1, 0, 0, 0, (fun _ => 0), (fun _ => 0), (fun _ => 0)) : BV))))))) rfl dX2_init_43 (fun H locs hw => ?_)
  refine lv_iinc (v := 3) (lv' := [(1, .int 3), (0, .ref h0)]) hx hb dX2_init_44 hl (k := 0) rfl (by decide) (by decide) rfl (fun ls hl => ?_)
  refine lv_goto (tgt := 25) hx hb dX2_init_47 (by decide) ?_
  refine lv_iload_n hx hb dX2_init_25 rfl (lv_at hl 0 rfl) ?_
  refine lv_bipush (v := 8) hx hb dX2_init_26 (by decide) ?_
  refine lv_icmp_ge (tgt := 50) hx hb dX2_init_28 (by decide) (fun h9 => absurd h9 (by decide)) (fun _ => ?_)
  refine lv_aload_n hx hb dX2_init_31 rfl (lv_at hl 1 rfl) ?_
  refine r_get (ci := 2) (C := RX2) (T := TX2) (N := 3) X hw 0 rfl rfl 0 (by decide) in_X2_init_X2 fl_X2_init_11 (v := .ref q_1) rfl dX2_init_32 ?_
  refine lv_iload_n hx hb dX2_init_35 rfl (lv_at hl 0 rfl) ?_
  refine r_new X hw (ci := 0) (C := RX0) (T := TX0) (N := 8) (fs := [.int 0, .int 0, .int 0, .int 0, .int 0, .null, .null, .null]) in_X2_init_X0 tyX0 tyX0_ok cl9_X2_init imX0_X2_init iiX0_X2_init rfl (fun j hj => by rcases (show j = 0 ∨ j = 1 ∨ j = 2 ∨ j = 3 ∨ j = 4 ∨ j = 5 ∨ j = 6 ∨ j = 7 by omega) with rfl | rfl | rfl | rfl | rfl | rfl | rfl | rfl <;> rfl) (Nat.le_of_ble_eq_true rfl) (Nat.le_of_ble_eq_true rfl) (wn := fun q_8 => ([(h0, .inr (2, [.ref q_1, .int 0, .int 0]))] ++ ([(q_1, .inl (t.2.1, 8, .inr (.inr (.inr (.inr (va_up (va_up (va_up (fun _ => none) 0 (some (BA.o zB_3))) 1 (some (BA.o zB_5))) 2 (some (BA.o zB_7))))))))] ++ (bW t zB_3 ((1, 1, 0, 0, 0, (fun _ => 0), (fun _ => 0), (fun _ => 0)) : BV) ++ (bW t zB_5 ((1, 1, 0, 0, 0, (fun _ => 0), (fun _ => 0), (fun _ => 0)) : BV) ++ (bW t zB_7 ((1, 1, 0, 0, 0, (fun _ => 0), (fun _ => 0), (fun _ => 0)) : BV) ++ ([(q_8, .inr (0, [.int 0, .int 0, .int 0, .int 0, .int 0, .null, .null, .null]))]))))))) (fun q => rfl) dX2_init_36 (fun q_8 H hw => ?_)
  refine lv_dup hx hb dX2_init_39 rfl ?_
  refine r_cv X hw (pm_r (pm_r (pm_r (pm_r (pm_r pm_0))))) (wn := fun (u : BA × BV) => ([(h0, .inr (2, [.ref q_1, .int 0, .int 0]))] ++ ([(q_1, .inl (t.2.1, 8, .inr (.inr (.inr (.inr (va_up (va_up (va_up (fun _ => none) 0 (some (BA.o zB_3))) 1 (some (BA.o zB_5))) 2 (some (BA.o zB_7))))))))] ++ (bW t zB_3 ((1, 1, 0, 0, 0, (fun _ => 0), (fun _ => 0), (fun _ => 0)) : BV) ++ (bW t zB_5 ((1, 1, 0, 0, 0, (fun _ => 0), (fun _ => 0), (fun _ => 0)) : BV) ++ (bW t zB_7 ((1, 1, 0, 0, 0, (fun _ => 0), (fun _ => 0), (fun _ => 0)) : BV) ++ (bW t u.1 u.2))))))) (fun u => (pm_r (pm_r (pm_r (pm_r (pm_r pm_0))))).symm) (r_runIN X hw (c_X0_init l D t q_8) (pm_r (pm_r (pm_r (pm_r (pm_r pm_0))))) (va_cnB 0 X.1.2.2.2.2 gX2_init_X0_init_n24 rfl rfl rfl (X.2.2.2.1.2.1 (RX2, 24, yX0_init, RX6) (by decide +kernel)) (X.1.2.2.2.2 _ iiX0_X2_init) (by decide +kernel) ⟨Nat.le_of_ble_eq_true rfl, Nat.le_of_ble_eq_true rfl⟩) rfl (X.1.2.2.2.2 _ inX0_init_X2_init) rfl hl rfl (Nat.le_of_ble_eq_true rfl) dX2_init_40 ⟨Nat.le_of_ble_eq_true rfl, Nat.le_of_ble_eq_true rfl⟩) (fun u H locs h hw2 => ?_)
  obtain ⟨zB_9, v9⟩ := u
  obtain ⟨h9, rfl⟩ : BA.o zB_9 = q_8 ∧ v9 = ((1, 1, 0, 0, 0, (fun _ => 0), (fun _ => 0), (fun _ => 0)) : BV) := h
  subst h9
  have hw := hw2
  refine r_aast X hw 1 1 14 0 rfl (r := (RX0, TX0, 8)) rfl rfl rfl (vpl rfl) (wn := ([(h0, .inr (2, [.ref q_1, .int 0, .int 0]))] ++ ([(q_1, .inl (t.2.1, 8, .inr (.inr (.inr (.inr (va_up (va_up (va_up (va_up (fun _ => none) 0 (some (BA.o zB_3))) 1 (some (BA.o zB_5))) 2 (some (BA.o zB_7))) 3 (some (BA.o zB_9))))))))] ++ (bW t zB_3 ((1, 1, 0, 0, 0, (fun _ => 0), (fun _ => 0), (fun _ => 0)) : BV) ++ (bW t zB_5 ((1, 1, 0, 0, 0, (fun _ => 0), (fun _ => 0), (fun _ => 0)) : BV) ++ (bW t zB_7 ((1, 1, 0, 0, 0, (fun _ => 0), (fun _ => 0), (fun _ => 0)) : BV) ++ (bW t zB_9 ((1, 1, 0, 0, 0, (fun _ => 0), (fun _ => 0), (fun _ => 0)) : BV)))))))) rfl dX2_init_43 (fun H locs hw => ?_)
  refine lv_iinc (v := 4) (lv' := [(1, .int 4), (0, .ref h0)]) hx hb dX2_init_44 hl (k := 0) rfl (by decide) (by decide) rfl (fun ls hl => ?_)
  refine lv_goto (tgt := 25) hx hb dX2_init_47 (by decide) ?_
  refine lv_iload_n hx hb dX2_init_25 rfl (lv_at hl 0 rfl) ?_
  refine lv_bipush (v := 8) hx hb dX2_init_26 (by decide) ?_
  refine lv_icmp_ge (tgt := 50) hx hb dX2_init_28 (by decide) (fun h9 => absurd h9 (by decide)) (fun _ => ?_)
  refine lv_aload_n hx hb dX2_init_31 rfl (lv_at hl 1 rfl) ?_
  refine r_get (ci := 2) (C := RX2) (T := TX2) (N := 3) X hw 0 rfl rfl 0 (by decide) in_X2_init_X2 fl_X2_init_11 (v := .ref q_1) rfl dX2_init_32 ?_
  refine lv_iload_n hx hb dX2_init_35 rfl (lv_at hl 0 rfl) ?_
  refine r_new X hw (ci := 0) (C := RX0) (T := TX0) (N := 8) (fs := [.int 0, .int 0, .int 0, .int 0, .int 0, .null, .null, .null]) in_X2_init_X0 tyX0 tyX0_ok cl9_X2_init imX0_X2_init iiX0_X2_init rfl (fun j hj => by rcases (show j = 0 ∨ j = 1 ∨ j = 2 ∨ j = 3 ∨ j = 4 ∨ j = 5 ∨ j = 6 ∨ j = 7 by omega) with rfl | rfl | rfl | rfl | rfl | rfl | rfl | rfl <;> rfl) (Nat.le_of_ble_eq_true rfl) (Nat.le_of_ble_eq_true rfl) (wn := fun q_10 => ([(h0, .inr (2, [.ref q_1, .int 0, .int 0]))] ++ ([(q_1, .inl (t.2.1, 8, .inr (.inr (.inr (.inr (va_up (va_up (va_up (va_up (fun _ => none) 0 (some (BA.o zB_3))) 1 (some (BA.o zB_5))) 2 (some (BA.o zB_7))) 3 (some (BA.o zB_9))))))))] ++ (bW t zB_3 ((1, 1, 0, 0, 0, (fun _ => 0), (fun _ => 0), (fun _ => 0)) : BV) ++ (bW t zB_5 ((1, 1, 0, 0, 0, (fun _ => 0), (fun _ => 0), (fun _ => 0)) : BV) ++ (bW t zB_7 ((1, 1, 0, 0, 0, (fun _ => 0), (fun _ => 0), (fun _ => 0)) : BV) ++ (bW t zB_9 ((1, 1, 0, 0, 0, (fun _ => 0), (fun _ => 0), (fun _ => 0)) : BV) ++ ([(q_10, .inr (0, [.int 0, .int 0, .int 0, .int 0, .int 0, .null, .null, .null]))])))))))) (fun q => rfl) dX2_init_36 (fun q_10 H hw => ?_)
  refine lv_dup hx hb dX2_init_39 rfl ?_
  refine r_cv X hw (pm_r (pm_r (pm_r (pm_r (pm_r (pm_r pm_0)))))) (wn := fun (u : BA × BV) => ([(h0, .inr (2, [.ref q_1, .int 0, .int 0]))] ++ ([(q_1, .inl (t.2.1, 8, .inr (.inr (.inr (.inr (va_up (va_up (va_up (va_up (fun _ => none) 0 (some (BA.o zB_3))) 1 (some (BA.o zB_5))) 2 (some (BA.o zB_7))) 3 (some (BA.o zB_9))))))))] ++ (bW t zB_3 ((1, 1, 0, 0, 0, (fun _ => 0), (fun _ => 0), (fun _ => 0)) : BV) ++ (bW t zB_5 ((1, 1, 0, 0, 0, (fun _ => 0), (fun _ => 0), (fun _ => 0)) : BV) ++ (bW t zB_7 ((1, 1, 0, 0, 0, (fun _ => 0), (fun _ => 0), (fun _ => 0)) : BV) ++ (bW t zB_9 ((1, 1, 0, 0, 0, (fun _ => 0), (fun _ => 0), (fun _ => 0)) : BV) ++ (bW t u.1 u.2)))))))) (fun u => (pm_r (pm_r (pm_r (pm_r (pm_r (pm_r pm_0)))))).symm) (r_runIN X hw (c_X0_init l D t q_10) (pm_r (pm_r (pm_r (pm_r (pm_r (pm_r pm_0)))))) (va_cnB 0 X.1.2.2.2.2 gX2_init_X0_init_n24 rfl rfl rfl (X.2.2.2.1.2.1 (RX2, 24, yX0_init, RX6) (by decide +kernel)) (X.1.2.2.2.2 _ iiX0_X2_init) (by decide +kernel) ⟨Nat.le_of_ble_eq_true rfl, Nat.le_of_ble_eq_true rfl⟩) rfl (X.1.2.2.2.2 _ inX0_init_X2_init) rfl hl rfl (Nat.le_of_ble_eq_true rfl) dX2_init_40 ⟨Nat.le_of_ble_eq_true rfl, Nat.le_of_ble_eq_true rfl⟩) (fun u H locs h hw2 => ?_)
  obtain ⟨zB_11, v9⟩ := u
  obtain ⟨h9, rfl⟩ : BA.o zB_11 = q_10 ∧ v9 = ((1, 1, 0, 0, 0, (fun _ => 0), (fun _ => 0), (fun _ => 0)) : BV) := h
  subst h9
  have hw := hw2
  refine r_aast X hw 1 1 18 0 rfl (r := (RX0, TX0, 8)) rfl rfl rfl (vpl rfl) (wn := ([(h0, .inr (2, [.ref q_1, .int 0, .int 0]))] ++ ([(q_1, .inl (t.2.1, 8, .inr (.inr (.inr (.inr (va_up (va_up (va_up (va_up (va_up (fun _ => none) 0 (some (BA.o zB_3))) 1 (some (BA.o zB_5))) 2 (some (BA.o zB_7))) 3 (some (BA.o zB_9))) 4 (some (BA.o zB_11))))))))] ++ (bW t zB_3 ((1, 1, 0, 0, 0, (fun _ => 0), (fun _ => 0), (fun _ => 0)) : BV) ++ (bW t zB_5 ((1, 1, 0, 0, 0, (fun _ => 0), (fun _ => 0), (fun _ => 0)) : BV) ++ (bW t zB_7 ((1, 1, 0, 0, 0, (fun _ => 0), (fun _ => 0), (fun _ => 0)) : BV) ++ (bW t zB_9 ((1, 1, 0, 0, 0, (fun _ => 0), (fun _ => 0), (fun _ => 0)) : BV) ++ (bW t zB_11 ((1, 1, 0, 0, 0, (fun _ => 0), (fun _ => 0), (fun _ => 0)) : BV))))))))) rfl dX2_init_43 (fun H locs hw => ?_)
  refine lv_iinc (v := 5) (lv' := [(1, .int 5), (0, .ref h0)]) hx hb dX2_init_44 hl (k := 0) rfl (by decide) (by decide) rfl (fun ls hl => ?_)
  refine lv_goto (tgt := 25) hx hb dX2_init_47 (by decide) ?_
  refine lv_iload_n hx hb dX2_init_25 rfl (lv_at hl 0 rfl) ?_
  refine lv_bipush (v := 8) hx hb dX2_init_26 (by decide) ?_
  refine lv_icmp_ge (tgt := 50) hx hb dX2_init_28 (by decide) (fun h9 => absurd h9 (by decide)) (fun _ => ?_)
  refine lv_aload_n hx hb dX2_init_31 rfl (lv_at hl 1 rfl) ?_
  refine r_get (ci := 2) (C := RX2) (T := TX2) (N := 3) X hw 0 rfl rfl 0 (by decide) in_X2_init_X2 fl_X2_init_11 (v := .ref q_1) rfl dX2_init_32 ?_
  refine lv_iload_n hx hb dX2_init_35 rfl (lv_at hl 0 rfl) ?_
  refine r_new X hw (ci := 0) (C := RX0) (T := TX0) (N := 8) (fs := [.int 0, .int 0, .int 0, .int 0, .int 0, .null, .null, .null]) in_X2_init_X0 tyX0 tyX0_ok cl9_X2_init imX0_X2_init iiX0_X2_init rfl (fun j hj => by rcases (show j = 0 ∨ j = 1 ∨ j = 2 ∨ j = 3 ∨ j = 4 ∨ j = 5 ∨ j = 6 ∨ j = 7 by omega) with rfl | rfl | rfl | rfl | rfl | rfl | rfl | rfl <;> rfl) (Nat.le_of_ble_eq_true rfl) (Nat.le_of_ble_eq_true rfl) (wn := fun q_12 => ([(h0, .inr (2, [.ref q_1, .int 0, .int 0]))] ++ ([(q_1, .inl (t.2.1, 8, .inr (.inr (.inr (.inr (va_up (va_up (va_up (va_up (va_up (fun _ => none) 0 (some (BA.o zB_3))) 1 (some (BA.o zB_5))) 2 (some (BA.o zB_7))) 3 (some (BA.o zB_9))) 4 (some (BA.o zB_11))))))))] ++ (bW t zB_3 ((1, 1, 0, 0, 0, (fun _ => 0), (fun _ => 0), (fun _ => 0)) : BV) ++ (bW t zB_5 ((1, 1, 0, 0, 0, (fun _ => 0), (fun _ => 0), (fun _ => 0)) : BV) ++ (bW t zB_7 ((1, 1, 0, 0, 0, (fun _ => 0), (fun _ => 0), (fun _ => 0)) : BV) ++ (bW t zB_9 ((1, 1, 0, 0, 0, (fun _ => 0), (fun _ => 0), (fun _ => 0)) : BV) ++ (bW t zB_11 ((1, 1, 0, 0, 0, (fun _ => 0), (fun _ => 0), (fun _ => 0)) : BV) ++ ([(q_12, .inr (0, [.int 0, .int 0, .int 0, .int 0, .int 0, .null, .null, .null]))]))))))))) (fun q => rfl) dX2_init_36 (fun q_12 H hw => ?_)
  refine lv_dup hx hb dX2_init_39 rfl ?_
  refine r_cv X hw (pm_r (pm_r (pm_r (pm_r (pm_r (pm_r (pm_r pm_0))))))) (wn := fun (u : BA × BV) => ([(h0, .inr (2, [.ref q_1, .int 0, .int 0]))] ++ ([(q_1, .inl (t.2.1, 8, .inr (.inr (.inr (.inr (va_up (va_up (va_up (va_up (va_up (fun _ => none) 0 (some (BA.o zB_3))) 1 (some (BA.o zB_5))) 2 (some (BA.o zB_7))) 3 (some (BA.o zB_9))) 4 (some (BA.o zB_11))))))))] ++ (bW t zB_3 ((1, 1, 0, 0, 0, (fun _ => 0), (fun _ => 0), (fun _ => 0)) : BV) ++ (bW t zB_5 ((1, 1, 0, 0, 0, (fun _ => 0), (fun _ => 0), (fun _ => 0)) : BV) ++ (bW t zB_7 ((1, 1, 0, 0, 0, (fun _ => 0), (fun _ => 0), (fun _ => 0)) : BV) ++ (bW t zB_9 ((1, 1, 0, 0, 0, (fun _ => 0), (fun _ => 0), (fun _ => 0)) : BV) ++ (bW t zB_11 ((1, 1, 0, 0, 0, (fun _ => 0), (fun _ => 0), (fun _ => 0)) : BV) ++ (bW t u.1 u.2))))))))) (fun u => (pm_r (pm_r (pm_r (pm_r (pm_r (pm_r (pm_r pm_0))))))).symm) (r_runIN X hw (c_X0_init l D t q_12) (pm_r (pm_r (pm_r (pm_r (pm_r (pm_r (pm_r pm_0))))))) (va_cnB 0 X.1.2.2.2.2 gX2_init_X0_init_n24 rfl rfl rfl (X.2.2.2.1.2.1 (RX2, 24, yX0_init, RX6) (by decide +kernel)) (X.1.2.2.2.2 _ iiX0_X2_init) (by decide +kernel) ⟨Nat.le_of_ble_eq_true rfl, Nat.le_of_ble_eq_true rfl⟩) rfl (X.1.2.2.2.2 _ inX0_init_X2_init) rfl hl rfl (Nat.le_of_ble_eq_true rfl) dX2_init_40 ⟨Nat.le_of_ble_eq_true rfl, Nat.le_of_ble_eq_true rfl⟩) (fun u H locs h hw2 => ?_)
  obtain ⟨zB_13, v9⟩ := u
  obtain ⟨h9, rfl⟩ : BA.o zB_13 = q_12 ∧ v9 = ((1, 1, 0, 0, 0, (fun _ => 0), (fun _ => 0), (fun _ => 0)) : BV) := h
  subst h9
  have hw := hw2
  refine r_aast X hw 1 1 22 0 rfl (r := (RX0, TX0, 8)) rfl rfl rfl (vpl rfl) (wn := ([(h0, .inr (2, [.ref q_1, .int 0, .int 0]))] ++ ([(q_1, .inl (t.2.1, 8, .inr (.inr (.inr (.inr (va_up (va_up (va_up (va_up (va_up (va_up (fun _ => none) 0 (some (BA.o zB_3))) 1 (some (BA.o zB_5))) 2 (some (BA.o zB_7))) 3 (some (BA.o zB_9))) 4 (some (BA.o zB_11))) 5 (some (BA.o zB_13))))))))] ++ (bW t zB_3 ((1, 1, 0, 0, 0, (fun _ => 0), (fun _ => 0), (fun _ => 0)) : BV) ++ (bW t zB_5 ((1, 1, 0, 0, 0, (fun _ => 0), (fun _ => 0), (fun _ => 0)) : BV) ++ (bW t zB_7 ((1, 1, 0, 0, 0, (fun _ => 0), (fun _ => 0), (fun _ => 0)) : BV) ++ (bW t zB_9 ((1, 1, 0, 0, 0, (fun _ => 0), (fun _ => 0), (fun _ => 0)) : BV) ++ (bW t zB_11 ((1, 1, 0, 0, 0, (fun _ => 0), (fun _ => 0), (fun _ => 0)) : BV) ++ (bW t zB_13 ((1, 1, 0, 0, 0, (fun _ => 0), (fun _ => 0), (fun _ => 0)) : BV)))))))))) rfl dX2_init_43 (fun H locs hw => ?_)
  refine lv_iinc (v := 6) (lv' := [(1, .int 6), (0, .ref h0)]) hx hb dX2_init_44 hl (k := 0) rfl (by decide) (by decide) rfl (fun ls hl => ?_)
  refine lv_goto (tgt := 25) hx hb dX2_init_47 (by decide) ?_
  refine lv_iload_n hx hb dX2_init_25 rfl (lv_at hl 0 rfl) ?_
  refine lv_bipush (v := 8) hx hb dX2_init_26 (by decide) ?_
  refine lv_icmp_ge (tgt := 50) hx hb dX2_init_28 (by decide) (fun h9 => absurd h9 (by decide)) (fun _ => ?_)
  refine lv_aload_n hx hb dX2_init_31 rfl (lv_at hl 1 rfl) ?_
  refine r_get (ci := 2) (C := RX2) (T := TX2) (N := 3) X hw 0 rfl rfl 0 (by decide) in_X2_init_X2 fl_X2_init_11 (v := .ref q_1) rfl dX2_init_32 ?_
  refine lv_iload_n hx hb dX2_init_35 rfl (lv_at hl 0 rfl) ?_
  refine r_new X hw (ci := 0) (C := RX0) (T := TX0) (N := 8) (fs := [.int 0, .int 0, .int 0, .int 0, .int 0, .null, .null, .null]) in_X2_init_X0 tyX0 tyX0_ok cl9_X2_init imX0_X2_init iiX0_X2_init rfl (fun j hj => by rcases (show j = 0 ∨ j = 1 ∨ j = 2 ∨ j = 3 ∨ j = 4 ∨ j = 5 ∨ j = 6 ∨ j = 7 by omega) with rfl | rfl | rfl | rfl | rfl | rfl | rfl | rfl <;> rfl) (Nat.le_of_ble_eq_true rfl) (Nat.le_of_ble_eq_true rfl) (wn := fun q_14 => ([(h0, .inr (2, [.ref q_1, .int 0, .int 0]))] ++ ([(q_1, .inl (t.2.1, 8, .inr (.inr (.inr (.inr (va_up (va_up (va_up (va_up (va_up (va_up (fun _ => none) 0 (some (BA.o zB_3))) 1 (some (BA.o zB_5))) 2 (some (BA.o zB_7))) 3 (some (BA.o zB_9))) 4 (some (BA.o zB_11))) 5 (some (BA.o zB_13))))))))] ++ (bW t zB_3 ((1, 1, 0, 0, 0, (fun _ => 0), (fun _ => 0), (fun _ => 0)) : BV) ++ (bW t zB_5 ((1, 1, 0, 0, 0, (fun _ => 0), (fun _ => 0), (fun _ => 0)) : BV) ++ (bW t zB_7 ((1, 1, 0, 0, 0, (fun _ => 0), (fun _ => 0), (fun _ => 0)) : BV) ++ (bW t zB_9 ((1, 1, 0, 0, 0, (fun _ => 0), (fun _ => 0), (fun _ => 0)) : BV) ++ (bW t zB_11 ((1, 1, 0, 0, 0, (fun _ => 0), (fun _ => 0), (fun _ => 0)) : BV) ++ (bW t zB_13 ((1, 1, 0, 0, 0, (fun _ => 0), (fun _ => 0), (fun _ => 0)) : BV) ++ ([(q_14, .inr (0, [.int 0, .int 0, .int 0, .int 0, .int 0, .null, .null, .null]))])))))))))) (fun q => rfl) dX2_init_36 (fun q_14 H hw => ?_)
  refine lv_dup hx hb dX2_init_39 rfl ?_
  refine r_cv X hw (pm_r (pm_r (pm_r (pm_r (pm_r (pm_r (pm_r (pm_r pm_0)))))))) (wn := fun (u : BA × BV) => ([(h0, .inr (2, [.ref q_1, .int 0, .int 0]))] ++ ([(q_1, .inl (t.2.1, 8, .inr (.inr (.inr (.inr (va_up (va_up (va_up (va_up (va_up (va_up (fun _ => none) 0 (some (BA.o zB_3))) 1 (some (BA.o zB_5))) 2 (some (BA.o zB_7))) 3 (some (BA.o zB_9))) 4 (some (BA.o zB_11))) 5 (some (BA.o zB_13))))))))] ++ (bW t zB_3 ((1, 1, 0, 0, 0, (fun _ => 0), (fun _ => 0), (fun _ => 0)) : BV) ++ (bW t zB_5 ((1, 1, 0, 0, 0, (fun _ => 0), (fun _ => 0), (fun _ => 0)) : BV) ++ (bW t zB_7 ((1, 1, 0, 0, 0, (fun _ => 0), (fun _ => 0), (fun _ => 0)) : BV) ++ (bW t zB_9 ((1, 1, 0, 0, 0, (fun _ => 0), (fun _ => 0), (fun _ => 0)) : BV) ++ (bW t zB_11 ((1, 1, 0, 0, 0, (fun _ => 0), (fun _ => 0), (fun _ => 0)) : BV) ++ (bW t zB_13 ((1, 1, 0, 0, 0, (fun _ => 0), (fun _ => 0), (fun _ => 0)) : BV) ++ (bW t u.1 u.2)))))))))) (fun u => (pm_r (pm_r (pm_r (pm_r (pm_r (pm_r (pm_r (pm_r pm_0)))))))).symm) (r_runIN X hw (c_X0_init l D t q_14) (pm_r (pm_r (pm_r (pm_r (pm_r (pm_r (pm_r (pm_r pm_0)))))))) (va_cnB 0 X.1.2.2.2.2 gX2_init_X0_init_n24 rfl rfl rfl (X.2.2.2.1.2.1 (RX2, 24, yX0_init, RX6) (by decide +kernel)) (X.1.2.2.2.2 _ iiX0_X2_init) (by decide +kernel) ⟨Nat.le_of_ble_eq_true rfl, Nat.le_of_ble_eq_true rfl⟩) rfl (X.1.2.2.2.2 _ inX0_init_X2_init) rfl hl rfl (Nat.le_of_ble_eq_true rfl) dX2_init_40 ⟨Nat.le_of_ble_eq_true rfl, Nat.le_of_ble_eq_true rfl⟩) (fun u H locs h hw2 => ?_)
  obtain ⟨zB_15, v9⟩ := u
  obtain ⟨h9, rfl⟩ : BA.o zB_15 = q_14 ∧ v9 = ((1, 1, 0, 0, 0, (fun _ => 0), (fun _ => 0), (fun _ => 0)) : BV) := h
  subst h9
  have hw := hw2
  refine r_aast X hw 1 1 26 0 rfl (r := (RX0, TX0, 8)) rfl rfl rfl (vpl rfl) (wn := ([(h0, .inr (2, [.ref q_1, .int 0, .int 0]))] ++ ([(q_1, .inl (t.2.1, 8, .inr (.inr (.inr (.inr (va_up (va_up (va_up (va_up (va_up (va_up (va_up (fun _ => none) 0 (some (BA.o zB_3))) 1 (some (BA.o zB_5))) 2 (some (BA.o zB_7))) 3 (some (BA.o zB_9))) 4 (some (BA.o zB_11))) 5 (some (BA.o zB_13))) 6 (some (BA.o zB_15))))))))] ++ (bW t zB_3 ((1, 1, 0, 0, 0, (fun _ => 0), (fun _ => 0), (fun _ => 0)) : BV) ++ (bW t zB_5 ((1, 1, 0, 0, 0, (fun _ => 0), (fun _ => 0), (fun _ => 0)) : BV) ++ (bW t zB_7 ((1, 1, 0, 0, 0, (fun _ => 0), (fun _ => 0), (fun _ => 0)) : BV) ++ (bW t zB_9 ((1, 1, 0, 0, 0, (fun _ => 0), (fun _ => 0), (fun _ => 0)) : BV) ++ (bW t zB_11 ((1, 1, 0, 0, 0, (fun _ => 0), (fun _ => 0), (fun _ => 0)) : BV) ++ (bW t zB_13 ((1, 1, 0, 0, 0, (fun _ => 0), (fun _ => 0), (fun _ => 0)) : BV) ++ (bW t zB_15 ((1, 1, 0, 0, 0, (fun _ => 0), (fun _ => 0), (fun _ => 0)) : BV))))))))))) rfl dX2_init_43 (fun H locs hw => ?_)
  refine lv_iinc (v := 7) (lv' := [(1, .int 7), (0, .ref h0)]) hx hb dX2_init_44 hl (k := 0) rfl (by decide) (by decide) rfl (fun ls hl => ?_)
  refine lv_goto (tgt := 25) hx hb dX2_init_47 (by decide) ?_
  refine lv_iload_n hx hb dX2_init_25 rfl (lv_at hl 0 rfl) ?_
  refine lv_bipush (v := 8) hx hb dX2_init_26 (by decide) ?_
  refine lv_icmp_ge (tgt := 50) hx hb dX2_init_28 (by decide) (fun h9 => absurd h9 (by decide)) (fun _ => ?_)
  refine lv_aload_n hx hb dX2_init_31 rfl (lv_at hl 1 rfl) ?_
  refine r_get (ci := 2) (C := RX2) (T := TX2) (N := 3) X hw 0 rfl rfl 0 (by decide) in_X2_init_X2 fl_X2_init_11 (v := .ref q_1) rfl dX2_init_32 ?_
  refine lv_iload_n hx hb dX2_init_35 rfl (lv_at hl 0 rfl) ?_
  refine r_new X hw (ci := 0) (C := RX0) (T := TX0) (N := 8) (fs := [.int 0, .int 0, .int 0, .int 0, .int 0, .null, .null, .null]) in_X2_init_X0 tyX0 tyX0_ok cl9_X2_init imX0_X2_init iiX0_X2_init rfl (fun j hj => by rcases (show j = 0 ∨ j = 1 ∨ j = 2 ∨ j = 3 ∨ j = 4 ∨ j = 5 ∨ j = 6 ∨ j = 7 by omega) with rfl | rfl | rfl | rfl | rfl | rfl | rfl | rfl <;> rfl) (Nat.le_of_ble_eq_true rfl) (Nat.le_of_ble_eq_true rfl) (wn := fun q_16 => ([(h0, .inr (2, [.ref q_1, .int 0, .int 0]))] ++ ([(q_1, .inl (t.2.1, 8, .inr (.inr (.inr (.inr (va_up (va_up (va_up (va_up (va_up (va_up (va_up (fun _ => none) 0 (some (BA.o zB_3))) 1 (some (BA.o zB_5))) 2 (some (BA.o zB_7))) 3 (some (BA.o zB_9))) 4 (some (BA.o zB_11))) 5 (some (BA.o zB_13))) 6 (some (BA.o zB_15))))))))] ++ (bW t zB_3 ((1, 1, 0, 0, 0, (fun _ => 0), (fun _ => 0), (fun _ => 0)) : BV) ++ (bW t zB_5 ((1, 1, 0, 0, 0, (fun _ => 0), (fun _ => 0), (fun _ => 0)) : BV) ++ (bW t zB_7 ((1, 1, 0, 0, 0, (fun _ => 0), (fun _ => 0), (fun _ => 0)) : BV) ++ (bW t zB_9 ((1, 1, 0, 0, 0, (fun _ => 0), (fun _ => 0), (fun _ => 0)) : BV) ++ (bW t zB_11 ((1, 1, 0, 0, 0, (fun _ => 0), (fun _ => 0), (fun _ => 0)) : BV) ++ (bW t zB_13 ((1, 1, 0, 0, 0, (fun _ => 0), (fun _ => 0), (fun _ => 0)) : BV) ++ (bW t zB_15 ((1, 1, 0, 0, 0, (fun _ => 0), (fun _ => 0), (fun _ => 0)) : BV) ++ ([(q_16, .inr (0, [.int 0, .int 0, .int 0, .int 0, .int 0, .null, .null, .null]))]))))))))))) (fun q => rfl) dX2_init_36 (fun q_16 H hw => ?_)
  refine lv_dup hx hb dX2_init_39 rfl ?_
  refine r_cv X hw (pm_r (pm_r (pm_r (pm_r (pm_r (pm_r (pm_r (pm_r (pm_r pm_0))))))))) (wn := fun (u : BA × BV) => ([(h0, .inr (2, [.ref q_1, .int 0, .int 0]))] ++ ([(q_1, .inl (t.2.1, 8, .inr (.inr (.inr (.inr (va_up (va_up (va_up (va_up (va_up (va_up (va_up (fun _ => none) 0 (some (BA.o zB_3))) 1 (some (BA.o zB_5))) 2 (some (BA.o zB_7))) 3 (some (BA.o zB_9))) 4 (some (BA.o zB_11))) 5 (some (BA.o zB_13))) 6 (some (BA.o zB_15))))))))] ++ (bW t zB_3 ((1, 1, 0, 0, 0, (fun _ => 0), (fun _ => 0), (fun _ => 0)) : BV) ++ (bW t zB_5 ((1, 1, 0, 0, 0, (fun _ => 0), (fun _ => 0), (fun _ => 0)) : BV) ++ (bW t zB_7 ((1, 1, 0, 0, 0, (fun _ => 0), (fun _ => 0), (fun _ => 0)) : BV) ++ (bW t zB_9 ((1, 1, 0, 0, 0, (fun _ => 0), (fun _ => 0), (fun _ => 0)) : BV) ++ (bW t zB_11 ((1, 1, 0, 0, 0, (fun _ => 0), (fun _ => 0), (fun _ => 0)) : BV) ++ (bW t zB_13 ((1, 1, 0, 0, 0, (fun _ => 0), (fun _ => 0), (fun _ => 0)) : BV) ++ (bW t zB_15 ((1, 1, 0, 0, 0, (fun _ => 0), (fun _ => 0), (fun _ => 0)) : BV) ++ (bW t u.1 u.2))))))))))) (fun u => (pm_r (pm_r (pm_r (pm_r (pm_r (pm_r (pm_r (pm_r (pm_r pm_0))))))))).symm) (r_runIN X hw (c_X0_init l D t q_16) (pm_r (pm_r (pm_r (pm_r (pm_r (pm_r (pm_r (pm_r (pm_r pm_0))))))))) (va_cnB 0 X.1.2.2.2.2 gX2_init_X0_init_n24 rfl rfl rfl (X.2.2.2.1.2.1 (RX2, 24, yX0_init, RX6) (by decide +kernel)) (X.1.2.2.2.2 _ iiX0_X2_init) (by decide +kernel) ⟨Nat.le_of_ble_eq_true rfl, Nat.le_of_ble_eq_true rfl⟩) rfl (X.1.2.2.2.2 _ inX0_init_X2_init) rfl hl rfl (Nat.le_of_ble_eq_true rfl) dX2_init_40 ⟨Nat.le_of_ble_eq_true rfl, Nat.le_of_ble_eq_true rfl⟩) (fun u H locs h hw2 => ?_)
  obtain ⟨zB_17, v9⟩ := u
  obtain ⟨h9, rfl⟩ : BA.o zB_17 = q_16 ∧ v9 = ((1, 1, 0, 0, 0, (fun _ => 0), (fun _ => 0), (fun _ => 0)) : BV) := h
  subst h9
  have hw := hw2
  refine r_aast X hw 1 1 30 0 rfl (r := (RX0, TX0, 8)) rfl rfl rfl (vpl rfl) (wn := ([(h0, .inr (2, [.ref q_1, .int 0, .int 0]))] ++ ([(q_1, .inl (t.2.1, 8, .inr (.inr (.inr (.inr (va_up (va_up (va_up (va_up (va_up (va_up (va_up (va_up (fun _ => none) 0 (some (BA.o zB_3))) 1 (some (BA.o zB_5))) 2 (some (BA.o zB_7))) 3 (some (BA.o zB_9))) 4 (some (BA.o zB_11))) 5 (some (BA.o zB_13))) 6 (some (BA.o zB_15))) 7 (some (BA.o zB_17))))))))] ++ (bW t zB_3 ((1, 1, 0, 0, 0, (fun _ => 0), (fun _ => 0), (fun _ => 0)) : BV) ++ (bW t zB_5 ((1, 1, 0, 0, 0, (fun _ => 0), (fun _ => 0), (fun _ => 0)) : BV) ++ (bW t zB_7 ((1, 1, 0, 0, 0, (fun _ => 0), (fun _ => 0), (fun _ => 0)) : BV) ++ (bW t zB_9 ((1, 1, 0, 0, 0, (fun _ => 0), (fun _ => 0), (fun _ => 0)) : BV) ++ (bW t zB_11 ((1, 1, 0, 0, 0, (fun _ => 0), (fun _ => 0), (fun _ => 0)) : BV) ++ (bW t zB_13 ((1, 1, 0, 0, 0, (fun _ => 0), (fun _ => 0), (fun _ => 0)) : BV) ++ (bW t zB_15 ((1, 1, 0, 0, 0, (fun _ => 0), (fun _ => 0), (fun _ => 0)) : BV) ++ (bW t zB_17 ((1, 1, 0, 0, 0, (fun _ => 0), (fun _ => 0), (fun _ => 0)) : BV)))))))))))) rfl dX2_init_43 (fun H locs hw => ?_)
  refine lv_iinc (v := 8) (lv' := [(1, .int 8), (0, .ref h0)]) hx hb dX2_init_44 hl (k := 0) rfl (by decide) (by decide) rfl (fun ls hl => ?_)
  refine lv_goto (tgt := 25) hx hb dX2_init_47 (by decide) ?_
  refine lv_iload_n hx hb dX2_init_25 rfl (lv_at hl 0 rfl) ?_
  refine lv_bipush (v := 8) hx hb dX2_init_26 (by decide) ?_
  refine lv_icmp_ge (tgt := 50) hx hb dX2_init_28 (by decide) (fun _ => ?_) (fun h9 => absurd h9 (by decide))
  have hw : Wd D A s.heap ([(h0, .inr (2, [.ref q_1, .int 0, .int 0]))] ++ ([(q_1, .inl (t.2.1, 8, .inr (.inr (.inr (.inr (fun j => some (BA.o ((fun j => ([zB_3, zB_5, zB_7, zB_9, zB_11, zB_13, zB_15, zB_17] : List BA).getD j zB_3) j))))))))] ++ (bW t zB_3 ((1, 1, 0, 0, 0, (fun _ => 0), (fun _ => 0), (fun _ => 0)) : BV) ++ (bW t zB_5 ((1, 1, 0, 0, 0, (fun _ => 0), (fun _ => 0), (fun _ => 0)) : BV) ++ (bW t zB_7 ((1, 1, 0, 0, 0, (fun _ => 0), (fun _ => 0), (fun _ => 0)) : BV) ++ (bW t zB_9 ((1, 1, 0, 0, 0, (fun _ => 0), (fun _ => 0), (fun _ => 0)) : BV) ++ (bW t zB_11 ((1, 1, 0, 0, 0, (fun _ => 0), (fun _ => 0), (fun _ => 0)) : BV) ++ (bW t zB_13 ((1, 1, 0, 0, 0, (fun _ => 0), (fun _ => 0), (fun _ => 0)) : BV) ++ (bW t zB_15 ((1, 1, 0, 0, 0, (fun _ => 0), (fun _ => 0), (fun _ => 0)) : BV) ++ (bW t zB_17 ((1, 1, 0, 0, 0, (fun _ => 0), (fun _ => 0), (fun _ => 0)) : BV))))))))))) H locs := Wd.qcong (p := ([(h0, .inr (2, [.ref q_1, .int 0, .int 0]))])) (r := (bW t zB_3 ((1, 1, 0, 0, 0, (fun _ => 0), (fun _ => 0), (fun _ => 0)) : BV) ++ (bW t zB_5 ((1, 1, 0, 0, 0, (fun _ => 0), (fun _ => 0), (fun _ => 0)) : BV) ++ (bW t zB_7 ((1, 1, 0, 0, 0, (fun _ => 0), (fun _ => 0), (fun _ => 0)) : BV) ++ (bW t zB_9 ((1, 1, 0, 0, 0, (fun _ => 0), (fun _ => 0), (fun _ => 0)) : BV) ++ (bW t zB_11 ((1, 1, 0, 0, 0, (fun _ => 0), (fun _ => 0), (fun _ => 0)) : BV) ++ (bW t zB_13 ((1, 1, 0, 0, 0, (fun _ => 0), (fun _ => 0), (fun _ => 0)) : BV) ++ (bW t zB_15 ((1, 1, 0, 0, 0, (fun _ => 0), (fun _ => 0), (fun _ => 0)) : BV) ++ (bW t zB_17 ((1, 1, 0, 0, 0, (fun _ => 0), (fun _ => 0), (fun _ => 0)) : BV)))))))))) hw (fun j hj => by rcases cases8 hj with rfl | rfl | rfl | rfl | rfl | rfl | rfl | rfl <;> rfl)
  have hw : Wd D A s.heap (hW t (h0, q_1, (fun j => ([zB_3, zB_5, zB_7, zB_9, zB_11, zB_13, zB_15, zB_17] : List BA).getD j zB_3)) ((fun _ => ((1, 1, 0, 0, 0, (fun _ => 0), (fun _ => 0), (fun _ => 0)) : BV)), 0, 0)) H locs := hw
  exact e_v (w1 := fun (u : HA × HV) => hW t u.1 u.2) X ((h0, q_1, (fun j => ([zB_3, zB_5, zB_7, zB_9, zB_11, zB_13, zB_15, zB_17] : List BA).getD j zB_3)), ((fun _ => ((1, 1, 0, 0, 0, (fun _ => 0), (fun _ => 0), (fun _ => 0)) : BV)), 0, 0)) hw ⟨rfl, rfl⟩ dX2_init_50
/-! X4_init -/
theorem ob1_X4_init : Cond.methodLink RX4 3 objectInit ∈ wsX4_init := List.mem_of_getElem? (i := 1) rfl
theorem ob2_X4_init : Cond.instanceMethod objectInit ∈ wsX4_init := List.mem_of_getElem? (i := 2) rfl
theorem ob3_X4_init : Cond.code objectInit ⟨#[0xb1]⟩ 1 none ∈ wsX4_init := List.mem_of_getElem? (i := 3) rfl
theorem in_X4_init_X0 : ∀ w ∈ u_ws RX0 TX0 8, w ∈ wsX4_init := fun w h => (List.mem_cons_of_mem _ (List.mem_append_left _ (List.mem_append_left _ (List.mem_append_right _ h))))
theorem cl9_X4_init : Cond.classLink RX4 9 RX0 ∈ wsX4_init := List.mem_of_getElem? (i := 4) rfl
theorem imX0_X4_init : Cond.instantiable RX0 8 ∈ wsX4_init := List.mem_of_getElem? (i := 5) rfl
theorem iiX0_X4_init : Cond.initialized RX0 ∈ wsX4_init := List.mem_of_getElem? (i := 6) rfl
theorem inX0_init_X4_init : Cond.instanceMethod yX0_init ∈ wsX4_init := List.mem_of_getElem? (i := 17) rfl
theorem in_X4_init_X4 : ∀ w ∈ u_ws RX4 TX4 7, w ∈ wsX4_init := fun w h => (List.mem_cons_of_mem _ (List.mem_append_left _ (List.mem_append_right _ h)))
theorem fl_X4_init_12 : Cond.fieldLink RX4 12 "TwoFacedTiles$Search" "trial" "LTwoFacedTiles$Board;" ∈ wsX4_init := List.mem_of_getElem? (i := 7) rfl
theorem fl_X4_init_18 : Cond.fieldLink RX4 18 "TwoFacedTiles$Search" "found" "I" ∈ wsX4_init := List.mem_of_getElem? (i := 8) rfl
theorem cl22_X4_init : Cond.classLink RX4 22 RX3 ∈ wsX4_init := List.mem_of_getElem? (i := 9) rfl
theorem fl_X4_init_24 : Cond.fieldLink RX4 24 "TwoFacedTiles$Search" "needs" "[LTwoFacedTiles$Needs;" ∈ wsX4_init := List.mem_of_getElem? (i := 10) rfl
theorem fl_X4_init_28 : Cond.fieldLink RX4 28 "TwoFacedTiles$Search" "most" "I" ∈ wsX4_init := List.mem_of_getElem? (i := 11) rfl
theorem fl_X4_init_31 : Cond.fieldLink RX4 31 "TwoFacedTiles$Search" "steps" "I" ∈ wsX4_init := List.mem_of_getElem? (i := 12) rfl
theorem fl_X4_init_34 : Cond.fieldLink RX4 34 "TwoFacedTiles$Search" "tooManySteps" "Z" ∈ wsX4_init := List.mem_of_getElem? (i := 13) rfl
theorem fl_X4_init_38 : Cond.fieldLink RX4 38 "TwoFacedTiles$Search" "over" "Z" ∈ wsX4_init := List.mem_of_getElem? (i := 14) rfl
theorem in_X4_init_X3 : ∀ w ∈ u_ws RX3 TX3 4, w ∈ wsX4_init := fun w h => (List.mem_cons_of_mem _ (List.mem_append_right _ h))
theorem imX3_X4_init : Cond.instantiable RX3 4 ∈ wsX4_init := List.mem_of_getElem? (i := 15) rfl
theorem iiX3_X4_init : Cond.initialized RX3 ∈ wsX4_init := List.mem_of_getElem? (i := 16) rfl
theorem inX3_init_X4_init : Cond.instanceMethod yX3_init ∈ wsX4_init := List.mem_of_getElem? (i := 29) rfl
set_option maxHeartbeats 8000000 in
set_option maxRecDepth 100000 in
theorem c_X4_init (l : Launch) (D : va_G) (t : T3) (h0 : Nat) : Ct l yX4_init wsX4_init 2 80 17 188 [.ref h0] D t ([(h0, .inr (4, [.null, .int 0, .null, .int 0, .int 0, .int 0, .int 0]))]) (fun sz => Qv D ([(h0, .inr (4, [.null, .int 0, .null, .int 0, .int 0, .int 0, .int 0]))]) (fun (u : SA × SV) => sW t u.1 u.2) (fun u => SA.o u.1 = h0 ∧ u.2 = ((((1, 1, 0, 0, 0, (fun _ => 0), (fun _ => 0), (fun _ => 0)) : BV), 0, (fun _ => ((0, 0, 0, 0) : NV)), 0, 0, 0, 0) : SV)) sz) := by
  refine Ct.of (Qf := fun _ A => va_Qv (fun (u : SA × SV) => SA.o u.1 = h0 ∧ u.2 = ((((1, 1, 0, 0, 0, (fun _ => 0), (fun _ => 0), (fun _ => 0)) : BV), 0, (fun _ => ((0, 0, 0, 0) : NV)), 0, 0, 0, 0) : SV)) (B1 D (fun (u : SA × SV) => sW t u.1 u.2) A) A) cX4_init 2 none (by decide) rfl (Nat.le_of_ble_eq_true rfl) ?_
  intro p e s m below meth c A ls hAe hin X hw hl
  generalize ([.ref h0] : List Value).toArray = args at X ⊢
  have hl : lv_has ls 2 [(0, .ref h0)] := hl
  have hin : meth.name = "<init>" := hin
  have hx := X.1.1
  have hb := X.1.2.1
  refine lv_aload_n hx hb dX4_init_0 rfl (lv_at hl 0 rfl) ?_
  refine r_obj X hl ob1_X4_init ob2_X4_init ob3_X4_init dX4_init_1 (Nat.le_of_ble_eq_true rfl) (Nat.le_of_ble_eq_true rfl) ?_
  refine lv_aload_n hx hb dX4_init_4 rfl (lv_at hl 0 rfl) ?_
  refine r_new X hw (ci := 0) (C := RX0) (T := TX0) (N := 8) (fs := [.int 0, .int 0, .int 0, .int 0, .int 0, .null, .null, .null]) in_X4_init_X0 tyX0 tyX0_ok cl9_X4_init imX0_X4_init iiX0_X4_init rfl (fun j hj => by rcases (show j = 0 ∨ j = 1 ∨ j = 2 ∨ j = 3 ∨ j = 4 ∨ j = 5 ∨ j = 6 ∨ j = 7 by omega) with rfl | rfl | rfl | rfl | rfl | rfl | rfl | rfl <;> rfl) (Nat.le_of_ble_eq_true rfl) (Nat.le_of_ble_eq_true rfl) (wn := fun q_1 => ([(h0, .inr (4, [.null, .int 0, .null, .int 0, .int 0, .int 0, .int 0]))] ++ ([(q_1, .inr (0, [.int 0, .int 0, .int 0, .int 0, .int 0, .null, .null, .null]))]))) (fun q => rfl) dX4_init_5 (fun q_1 H hw => ?_)
  refine lv_dup hx hb dX4_init_8 rfl ?_
  refine r_cv X hw (pm_r pm_0) (wn := fun (u : BA × BV) => ([(h0, .inr (4, [.null, .int 0, .null, .int 0, .int 0, .int 0, .int 0]))] ++ (bW t u.1 u.2))) (fun u => (pm_r pm_0).symm) (r_runIN X hw (c_X0_init l D t q_1) (pm_r pm_0) (va_cnB 0 X.1.2.2.2.2 gX4_init_X0_init_n11 rfl rfl rfl (X.2.2.2.1.2.1 (RX4, 11, yX0_init, RX6) (by decide +kernel)) (X.1.2.2.2.2 _ iiX0_X4_init) (by decide +kernel) ⟨Nat.le_of_ble_eq_true rfl, Nat.le_of_ble_eq_true rfl⟩) rfl (X.1.2.2.2.2 _ inX0_init_X4_init) rfl hl rfl (Nat.le_of_ble_eq_true rfl) dX4_init_9 ⟨Nat.le_of_ble_eq_true rfl, Nat.le_of_ble_eq_true rfl⟩) (fun u H locs h hw2 => ?_)
  obtain ⟨zB_2, v9⟩ := u
  obtain ⟨h9, rfl⟩ : BA.o zB_2 = q_1 ∧ v9 = ((1, 1, 0, 0, 0, (fun _ => 0), (fun _ => 0), (fun _ => 0)) : BV) := h
  subst h9
  have hw := hw2
  refine r_putF (ci := 4) (C := RX4) (T := TX4) (N := 7) (v := .ref (BA.o zB_2)) (ws' := ([(h0, .inr (4, [.ref (BA.o zB_2), .int 0, .null, .int 0, .int 0, .int 0, .int 0]))] ++ (bW t zB_2 ((1, 1, 0, 0, 0, (fun _ => 0), (fun _ => 0), (fun _ => 0)) : BV)))) X hin hw 0 rfl rfl 0 (by decide) in_X4_init_X4 tyX4 tyX4_ok nmX4 fl_X4_init_12 rfl rfl rfl rfl (Nat.le_of_ble_eq_true rfl) rfl dX4_init_12 (fun H locs hw => ?_)
  refine lv_aload_n hx hb dX4_init_15 rfl (lv_at hl 0 rfl) ?_
  refine lv_iconst (v := 0) hx hb dX4_init_16 (by decide) ?_
  refine r_put (ci := 4) (C := RX4) (T := TX4) (N := 7) (v := .int 0) (ws' := ([(h0, .inr (4, [.ref (BA.o zB_2), .int 0, .null, .int 0, .int 0, .int 0, .int 0]))] ++ (bW t zB_2 ((1, 1, 0, 0, 0, (fun _ => 0), (fun _ => 0), (fun _ => 0)) : BV)))) X hw 0 rfl rfl 1 (by decide) in_X4_init_X4 tyX4 tyX4_ok nmX4 fl_X4_init_18 rfl rfl rfl (Nat.le_of_ble_eq_true rfl) rfl dX4_init_17 (fun H locs hw => ?_)
  refine lv_aload_n hx hb dX4_init_20 rfl (lv_at hl 0 rfl) ?_
  refine lv_bipush (v := 12) hx hb dX4_init_21 (by decide) ?_
  refine r_newQ X hw (C := RX3) 2 rfl (by decide) cl22_X4_init X.2.2.2.1.2.2.1.2 (by decide) (N := 12) (by decide) (by decide) (Nat.le_of_ble_eq_true rfl) (Nat.le_of_ble_eq_true rfl) (wn := fun q_3 => ([(h0, .inr (4, [.ref (BA.o zB_2), .int 0, .null, .int 0, .int 0, .int 0, .int 0]))] ++ (bW t zB_2 ((1, 1, 0, 0, 0, (fun _ => 0), (fun _ => 0), (fun _ => 0)) : BV) ++ ([(q_3, .inl (t.2.2.1, 12, .inr (.inr (.inr (.inr (fun _ => none))))))])))) (fun q => rfl) dX4_init_23 (fun q_3 H hw => ?_)
  refine r_putF (ci := 4) (C := RX4) (T := TX4) (N := 7) (v := .ref q_3) (ws' := ([(h0, .inr (4, [.ref (BA.o zB_2), .int 0, .ref q_3, .int 0, .int 0, .int 0, .int 0]))] ++ (bW t zB_2 ((1, 1, 0, 0, 0, (fun _ => 0), (fun _ => 0), (fun _ => 0)) : BV) ++ ([(q_3, .inl (t.2.2.1, 12, .inr (.inr (.inr (.inr (fun _ => none))))))])))) X hin hw 0 rfl rfl 2 (by decide) in_X4_init_X4 tyX4 tyX4_ok nmX4 fl_X4_init_24 rfl rfl rfl rfl (Nat.le_of_ble_eq_true rfl) rfl dX4_init_26 (fun H locs hw => ?_)
  refine lv_aload_n hx hb dX4_init_29 rfl (lv_at hl 0 rfl) ?_
  refine lv_iconst (v := 0) hx hb dX4_init_30 (by decide) ?_
  refine r_put (ci := 4) (C := RX4) (T := TX4) (N := 7) (v := .int 0) (ws' := ([(h0, .inr (4, [.ref (BA.o zB_2), .int 0, .ref q_3, .int 0, .int 0, .int 0, .int 0]))] ++ (bW t zB_2 ((1, 1, 0, 0, 0, (fun _ => 0), (fun _ => 0), (fun _ => 0)) : BV) ++ ([(q_3, .inl (t.2.2.1, 12, .inr (.inr (.inr (.inr (fun _ => none))))))])))) X hw 0 rfl rfl 3 (by decide) in_X4_init_X4 tyX4 tyX4_ok nmX4 fl_X4_init_28 rfl rfl rfl (Nat.le_of_ble_eq_true rfl) rfl dX4_init_31 (fun H locs hw => ?_)
  refine lv_aload_n hx hb dX4_init_34 rfl (lv_at hl 0 rfl) ?_
  refine lv_iconst (v := 0) hx hb dX4_init_35 (by decide) ?_
  refine r_put (ci := 4) (C := RX4) (T := TX4) (N := 7) (v := .int 0) (ws' := ([(h0, .inr (4, [.ref (BA.o zB_2), .int 0, .ref q_3, .int 0, .int 0, .int 0, .int 0]))] ++ (bW t zB_2 ((1, 1, 0, 0, 0, (fun _ => 0), (fun _ => 0), (fun _ => 0)) : BV) ++ ([(q_3, .inl (t.2.2.1, 12, .inr (.inr (.inr (.inr (fun _ => none))))))])))) X hw 0 rfl rfl 4 (by decide) in_X4_init_X4 tyX4 tyX4_ok nmX4 fl_X4_init_31 rfl rfl rfl (Nat.le_of_ble_eq_true rfl) rfl dX4_init_36 (fun H locs hw => ?_)
  refine lv_aload_n hx hb dX4_init_39 rfl (lv_at hl 0 rfl) ?_
  refine lv_iconst (v := 0) hx hb dX4_init_40 (by decide) ?_
  refine r_put (ci := 4) (C := RX4) (T := TX4) (N := 7) (v := .int 0) (ws' := ([(h0, .inr (4, [.ref (BA.o zB_2), .int 0, .ref q_3, .int 0, .int 0, .int 0, .int 0]))] ++ (bW t zB_2 ((1, 1, 0, 0, 0, (fun _ => 0), (fun _ => 0), (fun _ => 0)) : BV) ++ ([(q_3, .inl (t.2.2.1, 12, .inr (.inr (.inr (.inr (fun _ => none))))))])))) X hw 0 rfl rfl 5 (by decide) in_X4_init_X4 tyX4 tyX4_ok nmX4 fl_X4_init_34 rfl rfl rfl (Nat.le_of_ble_eq_true rfl) rfl dX4_init_41 (fun H locs hw => ?_)
  refine lv_aload_n hx hb dX4_init_44 rfl (lv_at hl 0 rfl) ?_
  refine lv_iconst (v := 0) hx hb dX4_init_45 (by decide) ?_
  refine r_put (ci := 4) (C := RX4) (T := TX4) (N := 7) (v := .int 0) (ws' := ([(h0, .inr (4, [.ref (BA.o zB_2), .int 0, .ref q_3, .int 0, .int 0, .int 0, .int 0]))] ++ (bW t zB_2 ((1, 1, 0, 0, 0, (fun _ => 0), (fun _ => 0), (fun _ => 0)) : BV) ++ ([(q_3, .inl (t.2.2.1, 12, .inr (.inr (.inr (.inr (fun _ => none))))))])))) X hw 0 rfl rfl 6 (by decide) in_X4_init_X4 tyX4 tyX4_ok nmX4 fl_X4_init_38 rfl rfl rfl (Nat.le_of_ble_eq_true rfl) rfl dX4_init_46 (fun H locs hw => ?_)
  refine lv_iconst (v := 0) hx hb dX4_init_49 (by decide) ?_
  refine lv_istore_n (lv' := [(1, .int 0), (0, .ref h0)]) hx hb dX4_init_50 rfl hl (by decide) rfl (fun ls hl => ?_)
  refine lv_iload_n hx hb dX4_init_51 rfl (lv_at hl 0 rfl) ?_
  refine lv_bipush (v := 12) hx hb dX4_init_52 (by decide) ?_
  refine lv_icmp_ge (tgt := 76) hx hb dX4_init_54 (by decide) (fun h9 => absurd h9 (by decide)) (fun _ => ?_)
  refine lv_aload_n hx hb dX4_init_57 rfl (lv_at hl 1 rfl) ?_
  refine r_get (ci := 4) (C := RX4) (T := TX4) (N := 7) X hw 0 rfl rfl 2 (by decide) in_X4_init_X4 fl_X4_init_24 (v := .ref q_3) rfl dX4_init_58 ?_
  refine lv_iload_n hx hb dX4_init_61 rfl (lv_at hl 0 rfl) ?_
  refine r_new X hw (ci := 3) (C := RX3) (T := TX3) (N := 4) (fs := [.int 0, .int 0, .int 0, .int 0]) in_X4_init_X3 tyX3 tyX3_ok cl22_X4_init imX3_X4_init iiX3_X4_init rfl (fun j hj => by rcases (show j = 0 ∨ j = 1 ∨ j = 2 ∨ j = 3 by omega) with rfl | rfl | rfl | rfl <;> rfl) (Nat.le_of_ble_eq_true rfl) (Nat.le_of_ble_eq_true rfl) (wn := fun q_4 => ([(h0, .inr (4, [.ref (BA.o zB_2), .int 0, .ref q_3, .int 0, .int 0, .int 0, .int 0]))] ++ (bW t zB_2 ((1, 1, 0, 0, 0, (fun _ => 0), (fun _ => 0), (fun _ => 0)) : BV) ++ ([(q_3, .inl (t.2.2.1, 12, .inr (.inr (.inr (.inr (fun _ => none))))))] ++ ([(q_4, .inr (3, [.int 0, .int 0, .int 0, .int 0]))]))))) (fun q => rfl) dX4_init_62 (fun q_4 H hw => ?_)
  refine lv_dup hx hb dX4_init_65 rfl ?_
  refine r_cv X hw (pm_r (pm_r (pm_r pm_0))) (wn := fun (u : Nat × NV) => ([(h0, .inr (4, [.ref (BA.o zB_2), .int 0, .ref q_3, .int 0, .int 0, .int 0, .int 0]))] ++ (bW t zB_2 ((1, 1, 0, 0, 0, (fun _ => 0), (fun _ => 0), (fun _ => 0)) : BV) ++ ([(q_3, .inl (t.2.2.1, 12, .inr (.inr (.inr (.inr (fun _ => none))))))] ++ (nW t u.1 u.2))))) (fun u => (pm_r (pm_r (pm_r pm_0))).symm) (r_runIN X hw (c_X3_init l D t q_4) (pm_r (pm_r (pm_r pm_0))) (va_cnB 0 X.1.2.2.2.2 gX4_init_X3_init_n41 rfl rfl rfl (X.2.2.2.1.2.1 (RX4, 41, yX3_init, RX6) (by decide +kernel)) (X.1.2.2.2.2 _ iiX3_X4_init) (by decide +kernel) ⟨Nat.le_of_ble_eq_true rfl, Nat.le_of_ble_eq_true rfl⟩) rfl (X.1.2.2.2.2 _ inX3_init_X4_init) rfl hl rfl (Nat.le_of_ble_eq_true rfl) dX4_init_66 ⟨Nat.le_of_ble_eq_true rfl, Nat.le_of_ble_eq_true rfl⟩) (fun u H locs h hw2 => ?_)
  obtain ⟨zN_5, v9⟩ := u
  obtain ⟨h9, rfl⟩ : zN_5 = q_4 ∧ v9 = ((0, 0, 0, 0) : NV) := h
  subst h9
  have hw := hw2
  refine r_aast X hw 5 2 6 3 rfl (r := (RX3, TX3, 4)) rfl rfl rfl (vpl rfl) (wn := ([(h0, .inr (4, [.ref (BA.o zB_2), .int 0, .ref q_3, .int 0, .int 0, .int 0, .int 0]))] ++ (bW t zB_2 ((1, 1, 0, 0, 0, (fun _ => 0), (fun _ => 0), (fun _ => 0)) : BV) ++ ([(q_3, .inl (t.2.2.1, 12, .inr (.inr (.inr (.inr (va_up (fun _ => none) 0 (some zN_5)))))))] ++ (nW t zN_5 ((0, 0, 0, 0) : NV)))))) rfl dX4_init_69 (fun H locs hw => ?_)
  refine lv_iinc (v := 1) (lv' := [(1, .int 1), (0, .ref h0)]) hx hb dX4_init_70 hl (k := 0) rfl (by decide) (by decide) rfl (fun ls hl => ?_)
  refine lv_goto (tgt := 51) hx hb dX4_init_73 (by decide) ?_
  refine lv_iload_n hx hb dX4_init_51 rfl (lv_at hl 0 rfl) ?_
  refine lv_bipush (v := 12) hx hb dX4_init_52 (by decide) ?_
  refine lv_icmp_ge (tgt := 76) hx hb dX4_init_54 (by decide) (fun h9 => absurd h9 (by decide)) (fun _ => ?_)
  refine lv_aload_n hx hb dX4_init_57 rfl (lv_at hl 1 rfl) ?_
  refine r_get (ci := 4) (C := RX4) (T := TX4) (N := 7) X hw 0 rfl rfl 2 (by decide) in_X4_init_X4 fl_X4_init_24 (v := .ref q_3) rfl dX4_init_58 ?_
  refine lv_iload_n hx hb dX4_init_61 rfl (lv_at hl 0 rfl) ?_
  refine r_new X hw (ci := 3) (C := RX3) (T := TX3) (N := 4) (fs := [.int 0, .int 0, .int 0, .int 0]) in_X4_init_X3 tyX3 tyX3_ok cl22_X4_init imX3_X4_init iiX3_X4_init rfl (fun j hj => by rcases (show j = 0 ∨ j = 1 ∨ j = 2 ∨ j = 3 by omega) with rfl | rfl | rfl | rfl <;> rfl) (Nat.le_of_ble_eq_true rfl) (Nat.le_of_ble_eq_true rfl) (wn := fun q_6 => ([(h0, .inr (4, [.ref (BA.o zB_2), .int 0, .ref q_3, .int 0, .int 0, .int 0, .int 0]))] ++ (bW t zB_2 ((1, 1, 0, 0, 0, (fun _ => 0), (fun _ => 0), (fun _ => 0)) : BV) ++ ([(q_3, .inl (t.2.2.1, 12, .inr (.inr (.inr (.inr (va_up (fun _ => none) 0 (some zN_5)))))))] ++ (nW t zN_5 ((0, 0, 0, 0) : NV) ++ ([(q_6, .inr (3, [.int 0, .int 0, .int 0, .int 0]))])))))) (fun q => rfl) dX4_init_62 (fun q_6 H hw => ?_)
  refine lv_dup hx hb dX4_init_65 rfl ?_
  refine r_cv X hw (pm_r (pm_r (pm_r (pm_r pm_0)))) (wn := fun (u : Nat × NV) => ([(h0, .inr (4, [.ref (BA.o zB_2), .int 0, .ref q_3, .int 0, .int 0, .int 0, .int 0]))] ++ (bW t zB_2 ((1, 1, 0, 0, 0, (fun _ => 0), (fun _ => 0), (fun _ => 0)) : BV) ++ ([(q_3, .inl (t.2.2.1, 12, .inr (.inr (.inr (.inr (va_up (fun _ => none) 0 (some zN_5)))))))] ++ (nW t zN_5 ((0, 0, 0, 0) : NV) ++ (nW t u.1 u.2)))))) (fun u => (pm_r (pm_r (pm_r (pm_r pm_0)))).symm) (r_runIN X hw (c_X3_init l D t q_6) (pm_r (pm_r (pm_r (pm_r pm_0)))) (va_cnB 0 X.1.2.2.2.2 gX4_init_X3_init_n41 rfl rfl rfl (X.2.2.2.1.2.1 (RX4, 41, yX3_init, RX6) (by decide +kernel)) (X.1.2.2.2.2 _ iiX3_X4_init) (by decide +kernel) ⟨Nat.le_of_ble_eq_true rfl, Nat.le_of_ble_eq_true rfl⟩) rfl (X.1.2.2.2.2 _ inX3_init_X4_init) rfl hl rfl (Nat.le_of_ble_eq_true rfl) dX4_init_66 ⟨Nat.le_of_ble_eq_true rfl, Nat.le_of_ble_eq_true rfl⟩) (fun u H locs h hw2 => ?_)
  obtain ⟨zN_7, v9⟩ := u
  obtain ⟨h9, rfl⟩ : zN_7 = q_6 ∧ v9 = ((0, 0, 0, 0) : NV) := h
  subst h9
  have hw := hw2
  refine r_aast X hw 5 2 7 3 rfl (r := (RX3, TX3, 4)) rfl rfl rfl (vpl rfl) (wn := ([(h0, .inr (4, [.ref (BA.o zB_2), .int 0, .ref q_3, .int 0, .int 0, .int 0, .int 0]))] ++ (bW t zB_2 ((1, 1, 0, 0, 0, (fun _ => 0), (fun _ => 0), (fun _ => 0)) : BV) ++ ([(q_3, .inl (t.2.2.1, 12, .inr (.inr (.inr (.inr (va_up (va_up (fun _ => none) 0 (some zN_5)) 1 (some zN_7)))))))] ++ (nW t zN_5 ((0, 0, 0, 0) : NV) ++ (nW t zN_7 ((0, 0, 0, 0) : NV))))))) rfl dX4_init_69 (fun H locs hw => ?_)
  refine lv_iinc (v := 2) (lv' := [(1, .int 2), (0, .ref h0)]) hx hb dX4_init_70 hl (k := 0) rfl (by decide) (by decide) rfl (fun ls hl => ?_)
  refine lv_goto (tgt := 51) hx hb dX4_init_73 (by decide) ?_
  refine lv_iload_n hx hb dX4_init_51 rfl (lv_at hl 0 rfl) ?_
  refine lv_bipush (v := 12) hx hb dX4_init_52 (by decide) ?_
  refine lv_icmp_ge (tgt := 76) hx hb dX4_init_54 (by decide) (fun h9 => absurd h9 (by decide)) (fun _ => ?_)
  refine lv_aload_n hx hb dX4_init_57 rfl (lv_at hl 1 rfl) ?_
  refine r_get (ci := 4) (C := RX4) (T := TX4) (N := 7) X hw 0 rfl rfl 2 (by decide) in_X4_init_X4 fl_X4_init_24 (v := .ref q_3) rfl dX4_init_58 ?_
  refine lv_iload_n hx hb dX4_init_61 rfl (lv_at hl 0 rfl) ?_
  refine r_new X hw (ci := 3) (C := RX3) (T := TX3) (N := 4) (fs := [.int 0, .int 0, .int 0, .int 0]) in_X4_init_X3 tyX3 tyX3_ok cl22_X4_init imX3_X4_init iiX3_X4_init rfl (fun j hj => by rcases (show j = 0 ∨ j = 1 ∨ j = 2 ∨ j = 3 by omega) with rfl | rfl | rfl | rfl <;> rfl) (Nat.le_of_ble_eq_true rfl) (Nat.le_of_ble_eq_true rfl) (wn := fun q_8 => ([(h0, .inr (4, [.ref (BA.o zB_2), .int 0, .ref q_3, .int 0, .int 0, .int 0, .int 0]))] ++ (bW t zB_2 ((1, 1, 0, 0, 0, (fun _ => 0), (fun _ => 0), (fun _ => 0)) : BV) ++ ([(q_3, .inl (t.2.2.1, 12, .inr (.inr (.inr (.inr (va_up (va_up (fun _ => none) 0 (some zN_5)) 1 (some zN_7)))))))] ++ (nW t zN_5 ((0, 0, 0, 0) : NV) ++ (nW t zN_7 ((0, 0, 0, 0) : NV) ++ ([(q_8, .inr (3, [.int 0, .int 0, .int 0, .int 0]))]))))))) (fun q => rfl) dX4_init_62 (fun q_8 H hw => ?_)
  refine lv_dup hx hb dX4_init_65 rfl ?_
  refine r_cv X hw (pm_r (pm_r (pm_r (pm_r (pm_r pm_0))))) (wn := fun (u : Nat × NV) => ([(h0, .inr (4, [.ref (BA.o zB_2), .int 0, .ref q_3, .int 0, .int 0, .int 0, .int 0]))] ++ (bW t zB_2 ((1, 1, 0, 0, 0, (fun _ => 0), (fun _ => 0), (fun _ => 0)) : BV) ++ ([(q_3, .inl (t.2.2.1, 12, .inr (.inr (.inr (.inr (va_up (va_up (fun _ => none) 0 (some zN_5)) 1 (some zN_7)))))))] ++ (nW t zN_5 ((0, 0, 0, 0) : NV) ++ (nW t zN_7 ((0, 0, 0, 0) : NV) ++ (nW t u.1 u.2))))))) (fun u => (pm_r (pm_r (pm_r (pm_r (pm_r pm_0))))).symm) (r_runIN X hw (c_X3_init l D t q_8) (pm_r (pm_r (pm_r (pm_r (pm_r pm_0))))) (va_cnB 0 X.1.2.2.2.2 gX4_init_X3_init_n41 rfl rfl rfl (X.2.2.2.1.2.1 (RX4, 41, yX3_init, RX6) (by decide +kernel)) (X.1.2.2.2.2 _ iiX3_X4_init) (by decide +kernel) ⟨Nat.le_of_ble_eq_true rfl, Nat.le_of_ble_eq_true rfl⟩) rfl (X.1.2.2.2.2 _ inX3_init_X4_init) rfl hl rfl (Nat.le_of_ble_eq_true rfl) dX4_init_66 ⟨Nat.le_of_ble_eq_true rfl, Nat.le_of_ble_eq_true rfl⟩) (fun u H locs h hw2 => ?_)
  obtain ⟨zN_9, v9⟩ := u
  obtain ⟨h9, rfl⟩ : zN_9 = q_8 ∧ v9 = ((0, 0, 0, 0) : NV) := h
  subst h9
  have hw := hw2
  refine r_aast X hw 5 2 8 3 rfl (r := (RX3, TX3, 4)) rfl rfl rfl (vpl rfl) (wn := ([(h0, .inr (4, [.ref (BA.o zB_2), .int 0, .ref q_3, .int 0, .int 0, .int 0, .int 0]))] ++ (bW t zB_2 ((1, 1, 0, 0, 0, (fun _ => 0), (fun _ => 0), (fun _ => 0)) : BV) ++ ([(q_3, .inl (t.2.2.1, 12, .inr (.inr (.inr (.inr (va_up (va_up (va_up (fun _ => none) 0 (some zN_5)) 1 (some zN_7)) 2 (some zN_9)))))))] ++ (nW t zN_5 ((0, 0, 0, 0) : NV) ++ (nW t zN_7 ((0, 0, 0, 0) : NV) ++ (nW t zN_9 ((0, 0, 0, 0) : NV)))))))) rfl dX4_init_69 (fun H locs hw => ?_)
  refine lv_iinc (v := 3) (lv' := [(1, .int 3), (0, .ref h0)]) hx hb dX4_init_70 hl (k := 0) rfl (by decide) (by decide) rfl (fun ls hl => ?_)
  refine lv_goto (tgt := 51) hx hb dX4_init_73 (by decide) ?_
  refine lv_iload_n hx hb dX4_init_51 rfl (lv_at hl 0 rfl) ?_
  refine lv_bipush (v := 12) hx hb dX4_init_52 (by decide) ?_
  refine lv_icmp_ge (tgt := 76) hx hb dX4_init_54 (by decide) (fun h9 => absurd h9 (by decide)) (fun _ => ?_)
  refine lv_aload_n hx hb dX4_init_57 rfl (lv_at hl 1 rfl) ?_
  refine r_get (ci := 4) (C := RX4) (T := TX4) (N := 7) X hw 0 rfl rfl 2 (by decide) in_X4_init_X4 fl_X4_init_24 (v := .ref q_3) rfl dX4_init_58 ?_
  refine lv_iload_n hx hb dX4_init_61 rfl (lv_at hl 0 rfl) ?_
  refine r_new X hw (ci := 3) (C := RX3) (T := TX3) (N := 4) (fs := [.int 0, .int 0, .int 0, .int 0]) in_X4_init_X3 tyX3 tyX3_ok cl22_X4_init imX3_X4_init iiX3_X4_init rfl (fun j hj => by rcases (show j = 0 ∨ j = 1 ∨ j = 2 ∨ j = 3 by omega) with rfl | rfl | rfl | rfl <;> rfl) (Nat.le_of_ble_eq_true rfl) (Nat.le_of_ble_eq_true rfl) (wn := fun q_10 => ([(h0, .inr (4, [.ref (BA.o zB_2), .int 0, .ref q_3, .int 0, .int 0, .int 0, .int 0]))] ++ (bW t zB_2 ((1, 1, 0, 0, 0, (fun _ => 0), (fun _ => 0), (fun _ => 0)) : BV) ++ ([(q_3, .inl (t.2.2.1, 12, .inr (.inr (.inr (.inr (va_up (va_up (va_up (fun _ => none) 0 (some zN_5)) 1 (some zN_7)) 2 (some zN_9)))))))] ++ (nW t zN_5 ((0, 0, 0, 0) : NV) ++ (nW t zN_7 ((0, 0, 0, 0) : NV) ++ (nW t zN_9 ((0, 0, 0, 0) : NV) ++ ([(q_10, .inr (3, [.int 0, .int 0, .int 0, .int 0]))])))))))) (fun q => rfl) dX4_init_62 (fun q_10 H hw => ?_)
  refine lv_dup hx hb dX4_init_65 rfl ?_
  refine r_cv X hw (pm_r (pm_r (pm_r (pm_r (pm_r (pm_r pm_0)))))) (wn := fun (u : Nat × NV) => ([(h0, .inr (4, [.ref (BA.o zB_2), .int 0, .ref q_3, .int 0, .int 0, .int 0, .int 0]))] ++ (bW t zB_2 ((1, 1, 0, 0, 0, (fun _ => 0), (fun _ => 0), (fun _ => 0)) : BV) ++ ([(q_3, .inl (t.2.2.1, 12, .inr (.inr (.inr (.inr (va_up (va_up (va_up (fun _ => none) 0 (some zN_5)) 1 (some zN_7)) 2 (some zN_9)))))))] ++ (nW t zN_5 ((0, 0, 0, 0) : NV) ++ (nW t zN_7 ((0, 0, 0, 0) : NV) ++ (nW t zN_9 ((0, 0, 0, 0) : NV) ++ (nW t u.1 u.2)))))))) (fun u => (pm_r (pm_r (pm_r (pm_r (pm_r (pm_r pm_0)))))).symm) (r_runIN X hw (c_X3_init l D t q_10) (pm_r (pm_r (pm_r (pm_r (pm_r (pm_r pm_0)))))) (va_cnB 0 X.1.2.2.2.2 gX4_init_X3_init_n41 rfl rfl rfl (X.2.2.2.1.2.1 (RX4, 41, yX3_init, RX6) (by decide +kernel)) (X.1.2.2.2.2 _ iiX3_X4_init) (by decide +kernel) ⟨Nat.le_of_ble_eq_true rfl, Nat.le_of_ble_eq_true rfl⟩) rfl (X.1.2.2.2.2 _ inX3_init_X4_init) rfl hl rfl (Nat.le_of_ble_eq_true rfl) dX4_init_66 ⟨Nat.le_of_ble_eq_true rfl, Nat.le_of_ble_eq_true rfl⟩) (fun u H locs h hw2 => ?_)
  obtain ⟨zN_11, v9⟩ := u
  obtain ⟨h9, rfl⟩ : zN_11 = q_10 ∧ v9 = ((0, 0, 0, 0) : NV) := h
  subst h9
  have hw := hw2
  refine r_aast X hw 5 2 9 3 rfl (r := (RX3, TX3, 4)) rfl rfl rfl (vpl rfl) (wn := ([(h0, .inr (4, [.ref (BA.o zB_2), .int 0, .ref q_3, .int 0, .int 0, .int 0, .int 0]))] ++ (bW t zB_2 ((1, 1, 0, 0, 0, (fun _ => 0), (fun _ => 0), (fun _ => 0)) : BV) ++ ([(q_3, .inl (t.2.2.1, 12, .inr (.inr (.inr (.inr (va_up (va_up (va_up (va_up (fun _ => none) 0 (some zN_5)) 1 (some zN_7)) 2 (some zN_9)) 3 (some zN_11)))))))] ++ (nW t zN_5 ((0, 0, 0, 0) : NV) ++ (nW t zN_7 ((0, 0, 0, 0) : NV) ++ (nW t zN_9 ((0, 0, 0, 0) : NV) ++ (nW t zN_11 ((0, 0, 0, 0) : NV))))))))) rfl dX4_init_69 (fun H locs hw => ?_)
  refine lv_iinc (v := 4) (lv' := [(1, .int 4), (0, .ref h0)]) hx hb dX4_init_70 hl (k := 0) rfl (by decide) (by decide) rfl (fun ls hl => ?_)
  refine lv_goto (tgt := 51) hx hb dX4_init_73 (by decide) ?_
  refine lv_iload_n hx hb dX4_init_51 rfl (lv_at hl 0 rfl) ?_
  refine lv_bipush (v := 12) hx hb dX4_init_52 (by decide) ?_
  refine lv_icmp_ge (tgt := 76) hx hb dX4_init_54 (by decide) (fun h9 => absurd h9 (by decide)) (fun _ => ?_)
  refine lv_aload_n hx hb dX4_init_57 rfl (lv_at hl 1 rfl) ?_
  refine r_get (ci := 4) (C := RX4) (T := TX4) (N := 7) X hw 0 rfl rfl 2 (by decide) in_X4_init_X4 fl_X4_init_24 (v := .ref q_3) rfl dX4_init_58 ?_
  refine lv_iload_n hx hb dX4_init_61 rfl (lv_at hl 0 rfl) ?_
  refine r_new X hw (ci := 3) (C := RX3) (T := TX3) (N := 4) (fs := [.int 0, .int 0, .int 0, .int 0]) in_X4_init_X3 tyX3 tyX3_ok cl22_X4_init imX3_X4_init iiX3_X4_init rfl (fun j hj => by rcases (show j = 0 ∨ j = 1 ∨ j = 2 ∨ j = 3 by omega) with rfl | rfl | rfl | rfl <;> rfl) (Nat.le_of_ble_eq_true rfl) (Nat.le_of_ble_eq_true rfl) (wn := fun q_12 => ([(h0, .inr (4, [.ref (BA.o zB_2), .int 0, .ref q_3, .int 0, .int 0, .int 0, .int 0]))] ++ (bW t zB_2 ((1, 1, 0, 0, 0, (fun _ => 0), (fun _ => 0), (fun _ => 0)) : BV) ++ ([(q_3, .inl (t.2.2.1, 12, .inr (.inr (.inr (.inr (va_up (va_up (va_up (va_up (fun _ => none) 0 (some zN_5)) 1 (some zN_7)) 2 (some zN_9)) 3 (some zN_11)))))))] ++ (nW t zN_5 ((0, 0, 0, 0) : NV) ++ (nW t zN_7 ((0, 0, 0, 0) : NV) ++ (nW t zN_9 ((0, 0, 0, 0) : NV) ++ (nW t zN_11 ((0, 0, 0, 0) : NV) ++ ([(q_12, .inr (3, [.int 0, .int 0, .int 0, .int 0]))]))))))))) (fun q => rfl) dX4_init_62 (fun q_12 H hw => ?_)
  refine lv_dup hx hb dX4_init_65 rfl ?_
  refine r_cv X hw (pm_r (pm_r (pm_r (pm_r (pm_r (pm_r (pm_r pm_0))))))) (wn := fun (u : Nat × NV) => ([(h0, .inr (4, [.ref (BA.o zB_2), .int 0, .ref q_3, .int 0, .int 0, .int 0, .int 0]))] ++ (bW t zB_2 ((1, 1, 0, 0, 0, (fun _ => 0), (fun _ => 0), (fun _ => 0)) : BV) ++ ([(q_3, .inl (t.2.2.1, 12, .inr (.inr (.inr (.inr (va_up (va_up (va_up (va_up (fun _ => none) 0 (some zN_5)) 1 (some zN_7)) 2 (some zN_9)) 3 (some zN_11)))))))] ++ (nW t zN_5 ((0, 0, 0, 0) : NV) ++ (nW t zN_7 ((0, 0, 0, 0) : NV) ++ (nW t zN_9 ((0, 0, 0, 0) : NV) ++ (nW t zN_11 ((0, 0, 0, 0) : NV) ++ (nW t u.1 u.2))))))))) (fun u => (pm_r (pm_r (pm_r (pm_r (pm_r (pm_r (pm_r pm_0))))))).symm) (r_runIN X hw (c_X3_init l D t q_12) (pm_r (pm_r (pm_r (pm_r (pm_r (pm_r (pm_r pm_0))))))) (va_cnB 0 X.1.2.2.2.2 gX4_init_X3_init_n41 rfl rfl rfl (X.2.2.2.1.2.1 (RX4, 41, yX3_init, RX6) (by decide +kernel)) (X.1.2.2.2.2 _ iiX3_X4_init) (by decide +kernel) ⟨Nat.le_of_ble_eq_true rfl, Nat.le_of_ble_eq_true rfl⟩) rfl (X.1.2.2.2.2 _ inX3_init_X4_init) rfl hl rfl (Nat.le_of_ble_eq_true rfl) dX4_init_66 ⟨Nat.le_of_ble_eq_true rfl, Nat.le_of_ble_eq_true rfl⟩) (fun u H locs h hw2 => ?_)
  obtain ⟨zN_13, v9⟩ := u
  obtain ⟨h9, rfl⟩ : zN_13 = q_12 ∧ v9 = ((0, 0, 0, 0) : NV) := h
  subst h9
  have hw := hw2
  refine r_aast X hw 5 2 10 3 rfl (r := (RX3, TX3, 4)) rfl rfl rfl (vpl rfl) (wn := ([(h0, .inr (4, [.ref (BA.o zB_2), .int 0, .ref q_3, .int 0, .int 0, .int 0, .int 0]))] ++ (bW t zB_2 ((1, 1, 0, 0, 0, (fun _ => 0), (fun _ => 0), (fun _ => 0)) : BV) ++ ([(q_3, .inl (t.2.2.1, 12, .inr (.inr (.inr (.inr (va_up (va_up (va_up (va_up (va_up (fun _ => none) 0 (some zN_5)) 1 (some zN_7)) 2 (some zN_9)) 3 (some zN_11)) 4 (some zN_13)))))))] ++ (nW t zN_5 ((0, 0, 0, 0) : NV) ++ (nW t zN_7 ((0, 0, 0, 0) : NV) ++ (nW t zN_9 ((0, 0, 0, 0) : NV) ++ (nW t zN_11 ((0, 0, 0, 0) : NV) ++ (nW t zN_13 ((0, 0, 0, 0) : NV)))))))))) rfl dX4_init_69 (fun H locs hw => ?_)
  refine lv_iinc (v := 5) (lv' := [(1, .int 5), (0, .ref h0)]) hx hb dX4_init_70 hl (k := 0) rfl (by decide) (by decide) rfl (fun ls hl => ?_)
  refine lv_goto (tgt := 51) hx hb dX4_init_73 (by decide) ?_
  refine lv_iload_n hx hb dX4_init_51 rfl (lv_at hl 0 rfl) ?_
  refine lv_bipush (v := 12) hx hb dX4_init_52 (by decide) ?_
  refine lv_icmp_ge (tgt := 76) hx hb dX4_init_54 (by decide) (fun h9 => absurd h9 (by decide)) (fun _ => ?_)
  refine lv_aload_n hx hb dX4_init_57 rfl (lv_at hl 1 rfl) ?_
  refine r_get (ci := 4) (C := RX4) (T := TX4) (N := 7) X hw 0 rfl rfl 2 (by decide) in_X4_init_X4 fl_X4_init_24 (v := .ref q_3) rfl dX4_init_58 ?_
  refine lv_iload_n hx hb dX4_init_61 rfl (lv_at hl 0 rfl) ?_
  refine r_new X hw (ci := 3) (C := RX3) (T := TX3) (N := 4) (fs := [.int 0, .int 0, .int 0, .int 0]) in_X4_init_X3 tyX3 tyX3_ok cl22_X4_init imX3_X4_init iiX3_X4_init rfl (fun j hj => by rcases (show j = 0 ∨ j = 1 ∨ j = 2 ∨ j = 3 by omega) with rfl | rfl | rfl | rfl <;> rfl) (Nat.le_of_ble_eq_true rfl) (Nat.le_of_ble_eq_true rfl) (wn := fun q_14 => ([(h0, .inr (4, [.ref (BA.o zB_2), .int 0, .ref q_3, .int 0, .int 0, .int 0, .int 0]))] ++ (bW t zB_2 ((1, 1, 0, 0, 0, (fun _ => 0), (fun _ => 0), (fun _ => 0)) : BV) ++ ([(q_3, .inl (t.2.2.1, 12, .inr (.inr (.inr (.inr (va_up (va_up (va_up (va_up (va_up (fun _ => none) 0 (some zN_5)) 1 (some zN_7)) 2 (some zN_9)) 3 (some zN_11)) 4 (some zN_13)))))))] ++ (nW t zN_5 ((0, 0, 0, 0) : NV) ++ (nW t zN_7 ((0, 0, 0, 0) : NV) ++ (nW t zN_9 ((0, 0, 0, 0) : NV) ++ (nW t zN_11 ((0, 0, 0, 0) : NV) ++ (nW t zN_13 ((0, 0, 0, 0) : NV) ++ ([(q_14, .inr (3, [.int 0, .int 0, .int 0, .int 0]))])))))))))) (fun q => rfl) dX4_init_62 (fun q_14 H hw => ?_)
  refine lv_dup hx hb dX4_init_65 rfl ?_
  refine r_cv X hw (pm_r (pm_r (pm_r (pm_r (pm_r (pm_r (pm_r (pm_r pm_0)))))))) (wn := fun (u : Nat × NV) => ([(h0, .inr (4, [.ref (BA.o zB_2), .int 0, .ref q_3, .int 0, .int 0, .int 0, .int 0]))] ++ (bW t zB_2 ((1, 1, 0, 0, 0, (fun _ => 0), (fun _ => 0), (fun _ => 0)) : BV) ++ ([(q_3, .inl (t.2.2.1, 12, .inr (.inr (.inr (.inr (va_up (va_up (va_up (va_up (va_up (fun _ => none) 0 (some zN_5)) 1 (some zN_7)) 2 (some zN_9)) 3 (some zN_11)) 4 (some zN_13)))))))] ++ (nW t zN_5 ((0, 0, 0, 0) : NV) ++ (nW t zN_7 ((0, 0, 0, 0) : NV) ++ (nW t zN_9 ((0, 0, 0, 0) : NV) ++ (nW t zN_11 ((0, 0, 0, 0) : NV) ++ (nW t zN_13 ((0, 0, 0, 0) : NV) ++ (nW t u.1 u.2)))))))))) (fun u => (pm_r (pm_r (pm_r (pm_r (pm_r (pm_r (pm_r (pm_r pm_0)))))))).symm) (r_runIN X hw (c_X3_init l D t q_14) (pm_r (pm_r (pm_r (pm_r (pm_r (pm_r (pm_r (pm_r pm_0)))))))) (va_cnB 0 X.1.2.2.2.2 gX4_init_X3_init_n41 rfl rfl rfl (X.2.2.2.1.2.1 (RX4, 41, yX3_init, RX6) (by decide +kernel)) (X.1.2.2.2.2 _ iiX3_X4_init) (by decide +kernel) ⟨Nat.le_of_ble_eq_true rfl, Nat.le_of_ble_eq_true rfl⟩) rfl (X.1.2.2.2.2 _ inX3_init_X4_init) rfl hl rfl (Nat.le_of_ble_eq_true rfl) dX4_init_66 ⟨Nat.le_of_ble_eq_true rfl, Nat.le_of_ble_eq_true rfl⟩) (fun u H locs h hw2 => ?_)
  obtain ⟨zN_15, v9⟩ := u
  obtain ⟨h9, rfl⟩ : zN_15 = q_14 ∧ v9 = ((0, 0, 0, 0) : NV) := h
  subst h9
  have hw := hw2
  refine r_aast X hw 5 2 11 3 rfl (r := (RX3, TX3, 4)) rfl rfl rfl (vpl rfl) (wn := ([(h0, .inr (4, [.ref (BA.o zB_2), .int 0, .ref q_3, .int 0, .int 0, .int 0, .int 0]))] ++ (bW t zB_2 ((1, 1, 0, 0, 0, (fun _ => 0), (fun _ => 0), (fun _ => 0)) : BV) ++ ([(q_3, .inl (t.2.2.1, 12, .inr (.inr (.inr (.inr (va_up (va_up (va_up (va_up (va_up (va_up (fun _ => none) 0 (some zN_5)) 1 (some zN_7)) 2 (some zN_9)) 3 (some zN_11)) 4 (some zN_13)) 5 (some zN_15)))))))] ++ (nW t zN_5 ((0, 0, 0, 0) : NV) ++ (nW t zN_7 ((0, 0, 0, 0) : NV) ++ (nW t zN_9 ((0, 0, 0, 0) : NV) ++ (nW t zN_11 ((0, 0, 0, 0) : NV) ++ (nW t zN_13 ((0, 0, 0, 0) : NV) ++ (nW t zN_15 ((0, 0, 0, 0) : NV))))))))))) rfl dX4_init_69 (fun H locs hw => ?_)
  refine lv_iinc (v := 6) (lv' := [(1, .int 6), (0, .ref h0)]) hx hb dX4_init_70 hl (k := 0) rfl (by decide) (by decide) rfl (fun ls hl => ?_)
  refine lv_goto (tgt := 51) hx hb dX4_init_73 (by decide) ?_
  refine lv_iload_n hx hb dX4_init_51 rfl (lv_at hl 0 rfl) ?_
  refine lv_bipush (v := 12) hx hb dX4_init_52 (by decide) ?_
  refine lv_icmp_ge (tgt := 76) hx hb dX4_init_54 (by decide) (fun h9 => absurd h9 (by decide)) (fun _ => ?_)
  refine lv_aload_n hx hb dX4_init_57 rfl (lv_at hl 1 rfl) ?_
  refine r_get (ci := 4) (C := RX4) (T := TX4) (N := 7) X hw 0 rfl rfl 2 (by decide) in_X4_init_X4 fl_X4_init_24 (v := .ref q_3) rfl dX4_init_58 ?_
  refine lv_iload_n hx hb dX4_init_61 rfl (lv_at hl 0 rfl) ?_
  refine r_new X hw (ci := 3) (C := RX3) (T := TX3) (N := 4) (fs := [.int 0, .int 0, .int 0, .int 0]) in_X4_init_X3 tyX3 tyX3_ok cl22_X4_init imX3_X4_init iiX3_X4_init rfl (fun j hj => by rcases (show j = 0 ∨ j = 1 ∨ j = 2 ∨ j = 3 by omega) with rfl | rfl | rfl | rfl <;> rfl) (Nat.le_of_ble_eq_true rfl) (Nat.le_of_ble_eq_true rfl) (wn := fun q_16 => ([(h0, .inr (4, [.ref (BA.o zB_2), .int 0, .ref q_3, .int 0, .int 0, .int 0, .int 0]))] ++ (bW t zB_2 ((1, 1, 0, 0, 0, (fun _ => 0), (fun _ => 0), (fun _ => 0)) : BV) ++ ([(q_3, .inl (t.2.2.1, 12, .inr (.inr (.inr (.inr (va_up (va_up (va_up (va_up (va_up (va_up (fun _ => none) 0 (some zN_5)) 1 (some zN_7)) 2 (some zN_9)) 3 (some zN_11)) 4 (some zN_13)) 5 (some zN_15)))))))] ++ (nW t zN_5 ((0, 0, 0, 0) : NV) ++ (nW t zN_7 ((0, 0, 0, 0) : NV) ++ (nW t zN_9 ((0, 0, 0, 0) : NV) ++ (nW t zN_11 ((0, 0, 0, 0) : NV) ++ (nW t zN_13 ((0, 0, 0, 0) : NV) ++ (nW t zN_15 ((0, 0, 0, 0) : NV) ++ ([(q_16, .inr (3, [.int 0, .int 0, .int 0, .int 0]))]))))))))))) (fun q => rfl) dX4_init_62 (fun q_16 H hw => ?_)
  refine lv_dup hx hb dX4_init_65 rfl ?_
  refine r_cv X hw (pm_r (pm_r (pm_r (pm_r (pm_r (pm_r (pm_r (pm_r (pm_r pm_0))))))))) (wn := fun (u : Nat × NV) => ([(h0, .inr (4, [.ref (BA.o zB_2), .int 0, .ref q_3, .int 0, .int 0, .int 0, .int 0]))] ++ (bW t zB_2 ((1, 1, 0, 0, 0, (fun _ => 0), (fun _ => 0), (fun _ => 0)) : BV) ++ ([(q_3, .inl (t.2.2.1, 12, .inr (.inr (.inr (.inr (va_up (va_up (va_up (va_up (va_up (va_up (fun _ => none) 0 (some zN_5)) 1 (some zN_7)) 2 (some zN_9)) 3 (some zN_11)) 4 (some zN_13)) 5 (some zN_15)))))))] ++ (nW t zN_5 ((0, 0, 0, 0) : NV) ++ (nW t zN_7 ((0, 0, 0, 0) : NV) ++ (nW t zN_9 ((0, 0, 0, 0) : NV) ++ (nW t zN_11 ((0, 0, 0, 0) : NV) ++ (nW t zN_13 ((0, 0, 0, 0) : NV) ++ (nW t zN_15 ((0, 0, 0, 0) : NV) ++ (nW t u.1 u.2))))))))))) (fun u => (pm_r (pm_r (pm_r (pm_r (pm_r (pm_r (pm_r (pm_r (pm_r pm_0))))))))).symm) (r_runIN X hw (c_X3_init l D t q_16) (pm_r (pm_r (pm_r (pm_r (pm_r (pm_r (pm_r (pm_r (pm_r pm_0))))))))) (va_cnB 0 X.1.2.2.2.2 gX4_init_X3_init_n41 rfl rfl rfl (X.2.2.2.1.2.1 (RX4, 41, yX3_init, RX6) (by decide +kernel)) (X.1.2.2.2.2 _ iiX3_X4_init) (by decide +kernel) ⟨Nat.le_of_ble_eq_true rfl, Nat.le_of_ble_eq_true rfl⟩) rfl (X.1.2.2.2.2 _ inX3_init_X4_init) rfl hl rfl (Nat.le_of_ble_eq_true rfl) dX4_init_66 ⟨Nat.le_of_ble_eq_true rfl, Nat.le_of_ble_eq_true rfl⟩) (fun u H locs h hw2 => ?_)
  obtain ⟨zN_17, v9⟩ := u
  obtain ⟨h9, rfl⟩ : zN_17 = q_16 ∧ v9 = ((0, 0, 0, 0) : NV) := h
  subst h9
  have hw := hw2
  refine r_aast X hw 5 2 12 3 rfl (r := (RX3, TX3, 4)) rfl rfl rfl (vpl rfl) (wn := ([(h0, .inr (4, [.ref (BA.o zB_2), .int 0, .ref q_3, .int 0, .int 0, .int 0, .int 0]))] ++ (bW t zB_2 ((1, 1, 0, 0, 0, (fun _ => 0), (fun _ => 0), (fun _ => 0)) : BV) ++ ([(q_3, .inl (t.2.2.1, 12, .inr (.inr (.inr (.inr (va_up (va_up (va_up (va_up (va_up (va_up (va_up (fun _ => none) 0 (some zN_5)) 1 (some zN_7)) 2 (some zN_9)) 3 (some zN_11)) 4 (some zN_13)) 5 (some zN_15)) 6 (some zN_17)))))))] ++ (nW t zN_5 ((0, 0, 0, 0) : NV) ++ (nW t zN_7 ((0, 0, 0, 0) : NV) ++ (nW t zN_9 ((0, 0, 0, 0) : NV) ++ (nW t zN_11 ((0, 0, 0, 0) : NV) ++ (nW t zN_13 ((0, 0, 0, 0) : NV) ++ (nW t zN_15 ((0, 0, 0, 0) : NV) ++ (nW t zN_17 ((0, 0, 0, 0) : NV)))))))))))) rfl dX4_init_69 (fun H locs hw => ?_)
  refine lv_iinc (v := 7) (lv' := [(1, .int 7), (0, .ref h0)]) hx hb dX4_init_70 hl (k := 0) rfl (by decide) (by decide) rfl (fun ls hl => ?_)
  refine lv_goto (tgt := 51) hx hb dX4_init_73 (by decide) ?_
  refine lv_iload_n hx hb dX4_init_51 rfl (lv_at hl 0 rfl) ?_
  refine lv_bipush (v := 12) hx hb dX4_init_52 (by decide) ?_
  refine lv_icmp_ge (tgt := 76) hx hb dX4_init_54 (by decide) (fun h9 => absurd h9 (by decide)) (fun _ => ?_)
  refine lv_aload_n hx hb dX4_init_57 rfl (lv_at hl 1 rfl) ?_
  refine r_get (ci := 4) (C := RX4) (T := TX4) (N := 7) X hw 0 rfl rfl 2 (by decide) in_X4_init_X4 fl_X4_init_24 (v := .ref q_3) rfl dX4_init_58 ?_
  refine lv_iload_n hx hb dX4_init_61 rfl (lv_at hl 0 rfl) ?_
  refine r_new X hw (ci := 3) (C := RX3) (T := TX3) (N := 4) (fs := [.int 0, .int 0, .int 0, .int 0]) in_X4_init_X3 tyX3 tyX3_ok cl22_X4_init imX3_X4_init iiX3_X4_init rfl (fun j hj => by rcases (show j = 0 ∨ j = 1 ∨ j = 2 ∨ j = 3 by omega) with rfl | rfl | rfl | rfl <;> rfl) (Nat.le_of_ble_eq_true rfl) (Nat.le_of_ble_eq_true rfl) (wn := fun q_18 => ([(h0, .inr (4, [.ref (BA.o zB_2), .int 0, .ref q_3, .int 0, .int 0, .int 0, .int 0]))] ++ (bW t zB_2 ((1, 1, 0, 0, 0, (fun _ => 0), (fun _ => 0), (fun _ => 0)) : BV) ++ ([(q_3, .inl (t.2.2.1, 12, .inr (.inr (.inr (.inr (va_up (va_up (va_up (va_up (va_up (va_up (va_up (fun _ => none) 0 (some zN_5)) 1 (some zN_7)) 2 (some zN_9)) 3 (some zN_11)) 4 (some zN_13)) 5 (some zN_15)) 6 (some zN_17)))))))] ++ (nW t zN_5 ((0, 0, 0, 0) : NV) ++ (nW t zN_7 ((0, 0, 0, 0) : NV) ++ (nW t zN_9 ((0, 0, 0, 0) : NV) ++ (nW t zN_11 ((0, 0, 0, 0) : NV) ++ (nW t zN_13 ((0, 0, 0, 0) : NV) ++ (nW t zN_15 ((0, 0, 0, 0) : NV) ++ (nW t zN_17 ((0, 0, 0, 0) : NV) ++ ([(q_18, .inr (3, [.int 0, .int 0, .int 0, .int 0]))])))))))))))) (fun q => rfl) dX4_init_62 (fun q_18 H hw => ?_)
  refine lv_dup hx hb dX4_init_65 rfl ?_
  refine r_cv X hw (pm_r (pm_r (pm_r (pm_r (pm_r (pm_r (pm_r (pm_r (pm_r (pm_r pm_0)))))))))) (wn := fun (u : Nat × NV) => ([(h0, .inr (4, [.ref (BA.o zB_2), .int 0, .ref q_3, .int 0, .int 0, .int 0, .int 0]))] ++ (bW t zB_2 ((1, 1, 0, 0, 0, (fun _ => 0), (fun _ => 0), (fun _ => 0)) : BV) ++ ([(q_3, .inl (t.2.2.1, 12, .inr (.inr (.inr (.inr (va_up (va_up (va_up (va_up (va_up (va_up (va_up (fun _ => none) 0 (some zN_5)) 1 (some zN_7)) 2 (some zN_9)) 3 (some zN_11)) 4 (some zN_13)) 5 (some zN_15)) 6 (some zN_17)))))))] ++ (nW t zN_5 ((0, 0, 0, 0) : NV) ++ (nW t zN_7 ((0, 0, 0, 0) : NV) ++ (nW t zN_9 ((0, 0, 0, 0) : NV) ++ (nW t zN_11 ((0, 0, 0, 0) : NV) ++ (nW t zN_13 ((0, 0, 0, 0) : NV) ++ (nW t zN_15 ((0, 0, 0, 0) : NV) ++ (nW t zN_17 ((0, 0, 0, 0) : NV) ++ (nW t u.1 u.2)))))))))))) (fun u => (pm_r (pm_r (pm_r (pm_r (pm_r (pm_r (pm_r (pm_r (pm_r (pm_r pm_0)))))))))).symm) (r_runIN X hw (c_X3_init l D t q_18) (pm_r (pm_r (pm_r (pm_r (pm_r (pm_r (pm_r (pm_r (pm_r (pm_r pm_0)))))))))) (va_cnB 0 X.1.2.2.2.2 gX4_init_X3_init_n41 rfl rfl rfl (X.2.2.2.1.2.1 (RX4, 41, yX3_init, RX6) (by decide +kernel)) (X.1.2.2.2.2 _ iiX3_X4_init) (by decide +kernel) ⟨Nat.le_of_ble_eq_true rfl, Nat.le_of_ble_eq_true rfl⟩) rfl (X.1.2.2.2.2 _ inX3_init_X4_init) rfl hl rfl (Nat.le_of_ble_eq_true rfl) dX4_init_66 ⟨Nat.le_of_ble_eq_true rfl, Nat.le_of_ble_eq_true rfl⟩) (fun u H locs h hw2 => ?_)
  obtain ⟨zN_19, v9⟩ := u
  obtain ⟨h9, rfl⟩ : zN_19 = q_18 ∧ v9 = ((0, 0, 0, 0) : NV) := h
  subst h9
  have hw := hw2
  refine r_aast X hw 5 2 13 3 rfl (r := (RX3, TX3, 4)) rfl rfl rfl (vpl rfl) (wn := ([(h0, .inr (4, [.ref (BA.o zB_2), .int 0, .ref q_3, .int 0, .int 0, .int 0, .int 0]))] ++ (bW t zB_2 ((1, 1, 0, 0, 0, (fun _ => 0), (fun _ => 0), (fun _ => 0)) : BV) ++ ([(q_3, .inl (t.2.2.1, 12, .inr (.inr (.inr (.inr (va_up (va_up (va_up (va_up (va_up (va_up (va_up (va_up (fun _ => none) 0 (some zN_5)) 1 (some zN_7)) 2 (some zN_9)) 3 (some zN_11)) 4 (some zN_13)) 5 (some zN_15)) 6 (some zN_17)) 7 (some zN_19)))))))] ++ (nW t zN_5 ((0, 0, 0, 0) : NV) ++ (nW t zN_7 ((0, 0, 0, 0) : NV) ++ (nW t zN_9 ((0, 0, 0, 0) : NV) ++ (nW t zN_11 ((0, 0, 0, 0) : NV) ++ (nW t zN_13 ((0, 0, 0, 0) : NV) ++ (nW t zN_15 ((0, 0, 0, 0) : NV) ++ (nW t zN_17 ((0, 0, 0, 0) : NV) ++ (nW t zN_19 ((0, 0, 0, 0) : NV))))))))))))) rfl dX4_init_69 (fun H locs hw => ?_)
  refine lv_iinc (v := 8) (lv' := [(1, .int 8), (0, .ref h0)]) hx hb dX4_init_70 hl (k := 0) rfl (by decide) (by decide) rfl (fun ls hl => ?_)
  refine lv_goto (tgt := 51) hx hb dX4_init_73 (by decide) ?_
  refine lv_iload_n hx hb dX4_init_51 rfl (lv_at hl 0 rfl) ?_
  refine lv_bipush (v := 12) hx hb dX4_init_52 (by decide) ?_
  refine lv_icmp_ge (tgt := 76) hx hb dX4_init_54 (by decide) (fun h9 => absurd h9 (by decide)) (fun _ => ?_)
  refine lv_aload_n hx hb dX4_init_57 rfl (lv_at hl 1 rfl) ?_
  refine r_get (ci := 4) (C := RX4) (T := TX4) (N := 7) X hw 0 rfl rfl 2 (by decide) in_X4_init_X4 fl_X4_init_24 (v := .ref q_3) rfl dX4_init_58 ?_
  refine lv_iload_n hx hb dX4_init_61 rfl (lv_at hl 0 rfl) ?_
  refine r_new X hw (ci := 3) (C := RX3) (T := TX3) (N := 4) (fs := [.int 0, .int 0, .int 0, .int 0]) in_X4_init_X3 tyX3 tyX3_ok cl22_X4_init imX3_X4_init iiX3_X4_init rfl (fun j hj => by rcases (show j = 0 ∨ j = 1 ∨ j = 2 ∨ j = 3 by omega) with rfl | rfl | rfl | rfl <;> rfl) (Nat.le_of_ble_eq_true rfl) (Nat.le_of_ble_eq_true rfl) (wn := fun q_20 => ([(h0, .inr (4, [.ref (BA.o zB_2), .int 0, .ref q_3, .int 0, .int 0, .int 0, .int 0]))] ++ (bW t zB_2 ((1, 1, 0, 0, 0, (fun _ => 0), (fun _ => 0), (fun _ => 0)) : BV) ++ ([(q_3, .inl (t.2.2.1, 12, .inr (.inr (.inr (.inr (va_up (va_up (va_up (va_up (va_up (va_up (va_up (va_up (fun _ => none) 0 (some zN_5)) 1 (some zN_7)) 2 (some zN_9)) 3 (some zN_11)) 4 (some zN_13)) 5 (some zN_15)) 6 (some zN_17)) 7 (some zN_19)))))))] ++ (nW t zN_5 ((0, 0, 0, 0) : NV) ++ (nW t zN_7 ((0, 0, 0, 0) : NV) ++ (nW t zN_9 ((0, 0, 0, 0) : NV) ++ (nW t zN_11 ((0, 0, 0, 0) : NV) ++ (nW t zN_13 ((0, 0, 0, 0) : NV) ++ (nW t zN_15 ((0, 0, 0, 0) : NV) ++ (nW t zN_17 ((0, 0, 0, 0) : NV) ++ (nW t zN_19 ((0, 0, 0, 0) : NV) ++ ([(q_20, .inr (3, [.int 0, .int 0, .int 0, .int 0]))]))))))))))))) (fun q => rfl) dX4_init_62 (fun q_20 H hw => ?_)
  refine lv_dup hx hb dX4_init_65 rfl ?_
  refine r_cv X hw (pm_r (pm_r (pm_r (pm_r (pm_r (pm_r (pm_r (pm_r (pm_r (pm_r (pm_r pm_0))))))))))) (wn := fun (u : Nat × NV) => ([(h0, .inr (4, [.ref (BA.o zB_2), .int 0, .ref q_3, .int 0, .int 0, .int 0, .int 0]))] ++ (bW t zB_2 ((1, 1, 0, 0, 0, (fun _ => 0), (fun _ => 0), (fun _ => 0)) : BV) ++ ([(q_3, .inl (t.2.2.1, 12, .inr (.inr (.inr (.inr (va_up (va_up (va_up (va_up (va_up (va_up (va_up (va_up (fun _ => none) 0 (some zN_5)) 1 (some zN_7)) 2 (some zN_9)) 3 (some zN_11)) 4 (some zN_13)) 5 (some zN_15)) 6 (some zN_17)) 7 (some zN_19)))))))] ++ (nW t zN_5 ((0, 0, 0, 0) : NV) ++ (nW t zN_7 ((0, 0, 0, 0) : NV) ++ (nW t zN_9 ((0, 0, 0, 0) : NV) ++ (nW t zN_11 ((0, 0, 0, 0) : NV) ++ (nW t zN_13 ((0, 0, 0, 0) : NV) ++ (nW t zN_15 ((0, 0, 0, 0) : NV) ++ (nW t zN_17 ((0, 0, 0, 0) : NV) ++ (nW t zN_19 ((0, 0, 0, 0) : NV) ++ (nW t u.1 u.2))))))))))))) (fun u => (pm_r (pm_r (pm_r (pm_r (pm_r (pm_r (pm_r (pm_r (pm_r (pm_r (pm_r pm_0))))))))))).symm) (r_runIN X hw (c_X3_init l D t q_20) (pm_r (pm_r (pm_r (pm_r (pm_r (pm_r (pm_r (pm_r (pm_r (pm_r (pm_r pm_0))))))))))) (va_cnB 0 X.1.2.2.2.2 gX4_init_X3_init_n41 rfl rfl rfl (X.2.2.2.1.2.1 (RX4, 41, yX3_init, RX6) (by decide +kernel)) (X.1.2.2.2.2 _ iiX3_X4_init) (by decide +kernel) ⟨Nat.le_of_ble_eq_true rfl, Nat.le_of_ble_eq_true rfl⟩) rfl (X.1.2.2.2.2 _ inX3_init_X4_init) rfl hl rfl (Nat.le_of_ble_eq_true rfl) dX4_init_66 ⟨Nat.le_of_ble_eq_true rfl, Nat.le_of_ble_eq_true rfl⟩) (fun u H locs h hw2 => ?_)
  obtain ⟨zN_21, v9⟩ := u
  obtain ⟨h9, rfl⟩ : zN_21 = q_20 ∧ v9 = ((0, 0, 0, 0) : NV) := h
  subst h9
  have hw := hw2
  refine r_aast X hw 5 2 14 3 rfl (r := (RX3, TX3, 4)) rfl rfl rfl (vpl rfl) (wn := ([(h0, .inr (4, [.ref (BA.o zB_2), .int 0, .ref q_3, .int 0, .int 0, .int 0, .int 0]))] ++ (bW t zB_2 ((1, 1, 0, 0, 0, (fun _ => 0), (fun _ => 0), (fun _ => 0)) : BV) ++ ([(q_3, .inl (t.2.2.1, 12, .inr (.inr (.inr (.inr (va_up (va_up (va_up (va_up (va_up (va_up (va_up (va_up (va_up (fun _ => none) 0 (some zN_5)) 1 (some zN_7)) 2 (some zN_9)) 3 (some zN_11)) 4 (some zN_13)) 5 (some zN_15)) 6 (some zN_17)) 7 (some zN_19)) 8 (some zN_21)))))))] ++ (nW t zN_5 ((0, 0, 0, 0) : NV) ++ (nW t zN_7 ((0, 0, 0, 0) : NV) ++ (nW t zN_9 ((0, 0, 0, 0) : NV) ++ (nW t zN_11 ((0, 0, 0, 0) : NV) ++ (nW t zN_13 ((0, 0, 0, 0) : NV) ++ (nW t zN_15 ((0, 0, 0, 0) : NV) ++ (nW t zN_17 ((0, 0, 0, 0) : NV) ++ (nW t zN_19 ((0, 0, 0, 0) : NV) ++ (nW t zN_21 ((0, 0, 0, 0) : NV)))))))))))))) rfl dX4_init_69 (fun H locs hw => ?_)
  refine lv_iinc (v := 9) (lv' := [(1, .int 9), (0, .ref h0)]) hx hb dX4_init_70 hl (k := 0) rfl (by decide) (by decide) rfl (fun ls hl => ?_)
  refine lv_goto (tgt := 51) hx hb dX4_init_73 (by decide) ?_
  refine lv_iload_n hx hb dX4_init_51 rfl (lv_at hl 0 rfl) ?_
  refine lv_bipush (v := 12) hx hb dX4_init_52 (by decide) ?_
  refine lv_icmp_ge (tgt := 76) hx hb dX4_init_54 (by decide) (fun h9 => absurd h9 (by decide)) (fun _ => ?_)
  refine lv_aload_n hx hb dX4_init_57 rfl (lv_at hl 1 rfl) ?_
  refine r_get (ci := 4) (C := RX4) (T := TX4) (N := 7) X hw 0 rfl rfl 2 (by decide) in_X4_init_X4 fl_X4_init_24 (v := .ref q_3) rfl dX4_init_58 ?_
  refine lv_iload_n hx hb dX4_init_61 rfl (lv_at hl 0 rfl) ?_
  refine r_new X hw (ci := 3) (C := RX3) (T := TX3) (N := 4) (fs := [.int 0, .int 0, .int 0, .int 0]) in_X4_init_X3 tyX3 tyX3_ok cl22_X4_init imX3_X4_init iiX3_X4_init rfl (fun j hj => by rcases (show j = 0 ∨ j = 1 ∨ j = 2 ∨ j = 3 by omega) with rfl | rfl | rfl | rfl <;> rfl) (Nat.le_of_ble_eq_true rfl) (Nat.le_of_ble_eq_true rfl) (wn := fun q_22 => ([(h0, .inr (4, [.ref (BA.o zB_2), .int 0, .ref q_3, .int 0, .int 0, .int 0, .int 0]))] ++ (bW t zB_2 ((1, 1, 0, 0, 0, (fun _ => 0), (fun _ => 0), (fun _ => 0)) : BV) ++ ([(q_3, .inl (t.2.2.1, 12, .inr (.inr (.inr (.inr (va_up (va_up (va_up (va_up (va_up (va_up (va_up (va_up (va_up (fun _ => none) 0 (some zN_5)) 1 (some zN_7)) 2 (some zN_9)) 3 (some zN_11)) 4 (some zN_13)) 5 (some zN_15)) 6 (some zN_17)) 7 (some zN_19)) 8 (some zN_21)))))))] ++ (nW t zN_5 ((0, 0, 0, 0) : NV) ++ (nW t zN_7 ((0, 0, 0, 0) : NV) ++ (nW t zN_9 ((0, 0, 0, 0) : NV) ++ (nW t zN_11 ((0, 0, 0, 0) : NV) ++ (nW t zN_13 ((0, 0, 0, 0) : NV) ++ (nW t zN_15 ((0, 0, 0, 0) : NV) ++ (nW t zN_17 ((0, 0, 0, 0) : NV) ++ (nW t zN_19 ((0, 0, 0, 0) : NV) ++ (nW t zN_21 ((0, 0, 0, 0) : NV) ++ ([(q_22, .inr (3, [.int 0, .int 0, .int 0, .int 0]))])))))))))))))) (fun q => rfl) dX4_init_62 (fun q_22 H hw => ?_)
  refine lv_dup hx hb dX4_init_65 rfl ?_
  refine r_cv X hw (pm_r (pm_r (pm_r (pm_r (pm_r (pm_r (pm_r (pm_r (pm_r (pm_r (pm_r (pm_r pm_0)))))))))))) (wn := fun (u : Nat × NV) => ([(h0, .inr (4, [.ref (BA.o zB_2), .int 0, .ref q_3, .int 0, .int 0, .int 0, .int 0]))] ++ (bW t zB_2 ((1, 1, 0, 0, 0, (fun _ => 0), (fun _ => 0), (fun _ => 0)) : BV) ++ ([(q_3, .inl (t.2.2.1, 12, .inr (.inr (.inr (.inr (va_up (va_up (va_up (va_up (va_up (va_up (va_up (va_up (va_up (fun _ => none) 0 (some zN_5)) 1 (some zN_7)) 2 (some zN_9)) 3 (some zN_11)) 4 (some zN_13)) 5 (some zN_15)) 6 (some zN_17)) 7 (some zN_19)) 8 (some zN_21)))))))] ++ (nW t zN_5 ((0, 0, 0, 0) : NV) ++ (nW t zN_7 ((0, 0, 0, 0) : NV) ++ (nW t zN_9 ((0, 0, 0, 0) : NV) ++ (nW t zN_11 ((0, 0, 0, 0) : NV) ++ (nW t zN_13 ((0, 0, 0, 0) : NV) ++ (nW t zN_15 ((0, 0, 0, 0) : NV) ++ (nW t zN_17 ((0, 0, 0, 0) : NV) ++ (nW t zN_19 ((0, 0, 0, 0) : NV) ++ (nW t zN_21 ((0, 0, 0, 0) : NV) ++ (nW t u.1 u.2)))))))))))))) (fun u => (pm_r (pm_r (pm_r (pm_r (pm_r (pm_r (pm_r (pm_r (pm_r (pm_r (pm_r (pm_r pm_0)))))))))))).symm) (r_runIN X hw (c_X3_init l D t q_22) (pm_r (pm_r (pm_r (pm_r (pm_r (pm_r (pm_r (pm_r (pm_r (pm_r (pm_r (pm_r pm_0)))))))))))) (va_cnB 0 X.1.2.2.2.2 gX4_init_X3_init_n41 rfl rfl rfl (X.2.2.2.1.2.1 (RX4, 41, yX3_init, RX6) (by decide +kernel)) (X.1.2.2.2.2 _ iiX3_X4_init) (by decide +kernel) ⟨Nat.le_of_ble_eq_true rfl, Nat.le_of_ble_eq_true rfl⟩) rfl (X.1.2.2.2.2 _ inX3_init_X4_init) rfl hl rfl (Nat.le_of_ble_eq_true rfl) dX4_init_66 ⟨Nat.le_of_ble_eq_true rfl, Nat.le_of_ble_eq_true rfl⟩) (fun u H locs h hw2 => ?_)
  obtain ⟨zN_23, v9⟩ := u
  obtain ⟨h9, rfl⟩ : zN_23 = q_22 ∧ v9 = ((0, 0, 0, 0) : NV) := h
  subst h9
  have hw := hw2
  refine r_aast X hw 5 2 15 3 rfl (r := (RX3, TX3, 4)) rfl rfl rfl (vpl rfl) (wn := ([(h0, .inr (4, [.ref (BA.o zB_2), .int 0, .ref q_3, .int 0, .int 0, .int 0, .int 0]))] ++ (bW t zB_2 ((1, 1, 0, 0, 0, (fun _ => 0), (fun _ => 0), (fun _ => 0)) : BV) ++ ([(q_3, .inl (t.2.2.1, 12, .inr (.inr (.inr (.inr (va_up (va_up (va_up (va_up (va_up (va_up (va_up (va_up (va_up (va_up (fun _ => none) 0 (some zN_5)) 1 (some zN_7)) 2 (some zN_9)) 3 (some zN_11)) 4 (some zN_13)) 5 (some zN_15)) 6 (some zN_17)) 7 (some zN_19)) 8 (some zN_21)) 9 (some zN_23)))))))] ++ (nW t zN_5 ((0, 0, 0, 0) : NV) ++ (nW t zN_7 ((0, 0, 0, 0) : NV) ++ (nW t zN_9 ((0, 0, 0, 0) : NV) ++ (nW t zN_11 ((0, 0, 0, 0) : NV) ++ (nW t zN_13 ((0, 0, 0, 0) : NV) ++ (nW t zN_15 ((0, 0, 0, 0) : NV) ++ (nW t zN_17 ((0, 0, 0, 0) : NV) ++ (nW t zN_19 ((0, 0, 0, 0) : NV) ++ (nW t zN_21 ((0, 0, 0, 0) : NV) ++ (nW t zN_23 ((0, 0, 0, 0) : NV))))))))))))))) rfl dX4_init_69 (fun H locs hw => ?_)
  refine lv_iinc (v := 10) (lv' := [(1, .int 10), (0, .ref h0)]) hx hb dX4_init_70 hl (k := 0) rfl (by decide) (by decide) rfl (fun ls hl => ?_)
  refine lv_goto (tgt := 51) hx hb dX4_init_73 (by decide) ?_
  refine lv_iload_n hx hb dX4_init_51 rfl (lv_at hl 0 rfl) ?_
  refine lv_bipush (v := 12) hx hb dX4_init_52 (by decide) ?_
  refine lv_icmp_ge (tgt := 76) hx hb dX4_init_54 (by decide) (fun h9 => absurd h9 (by decide)) (fun _ => ?_)
  refine lv_aload_n hx hb dX4_init_57 rfl (lv_at hl 1 rfl) ?_
  refine r_get (ci := 4) (C := RX4) (T := TX4) (N := 7) X hw 0 rfl rfl 2 (by decide) in_X4_init_X4 fl_X4_init_24 (v := .ref q_3) rfl dX4_init_58 ?_
  refine lv_iload_n hx hb dX4_init_61 rfl (lv_at hl 0 rfl) ?_
  refine r_new X hw (ci := 3) (C := RX3) (T := TX3) (N := 4) (fs := [.int 0, .int 0, .int 0, .int 0]) in_X4_init_X3 tyX3 tyX3_ok cl22_X4_init imX3_X4_init iiX3_X4_init rfl (fun j hj => by rcases (show j = 0 ∨ j = 1 ∨ j = 2 ∨ j = 3 by omega) with rfl | rfl | rfl | rfl <;> rfl) (Nat.le_of_ble_eq_true rfl) (Nat.le_of_ble_eq_true rfl) (wn := fun q_24 => ([(h0, .inr (4, [.ref (BA.o zB_2), .int 0, .ref q_3, .int 0, .int 0, .int 0, .int 0]))] ++ (bW t zB_2 ((1, 1, 0, 0, 0, (fun _ => 0), (fun _ => 0), (fun _ => 0)) : BV) ++ ([(q_3, .inl (t.2.2.1, 12, .inr (.inr (.inr (.inr (va_up (va_up (va_up (va_up (va_up (va_up (va_up (va_up (va_up (va_up (fun _ => none) 0 (some zN_5)) 1 (some zN_7)) 2 (some zN_9)) 3 (some zN_11)) 4 (some zN_13)) 5 (some zN_15)) 6 (some zN_17)) 7 (some zN_19)) 8 (some zN_21)) 9 (some zN_23)))))))] ++ (nW t zN_5 ((0, 0, 0, 0) : NV) ++ (nW t zN_7 ((0, 0, 0, 0) : NV) ++ (nW t zN_9 ((0, 0, 0, 0) : NV) ++ (nW t zN_11 ((0, 0, 0, 0) : NV) ++ (nW t zN_13 ((0, 0, 0, 0) : NV) ++ (nW t zN_15 ((0, 0, 0, 0) : NV) ++ (nW t zN_17 ((0, 0, 0, 0) : NV) ++ (nW t zN_19 ((0, 0, 0, 0) : NV) ++ (nW t zN_21 ((0, 0, 0, 0) : NV) ++ (nW t zN_23 ((0, 0, 0, 0) : NV) ++ ([(q_24, .inr (3, [.int 0, .int 0, .int 0, .int 0]))]))))))))))))))) (fun q => rfl) dX4_init_62 (fun q_24 H hw => ?_)
  refine lv_dup hx hb dX4_init_65 rfl ?_
  refine r_cv X hw (pm_r (pm_r (pm_r (pm_r (pm_r (pm_r (pm_r (pm_r (pm_r (pm_r (pm_r (pm_r (pm_r pm_0))))))))))))) (wn := fun (u : Nat × NV) => ([(h0, .inr (4, [.ref (BA.o zB_2), .int 0, .ref q_3, .int 0, .int 0, .int 0, .int 0]))] ++ (bW t zB_2 ((1, 1, 0, 0, 0, (fun _ => 0), (fun _ => 0), (fun _ => 0)) : BV) ++ ([(q_3, .inl (t.2.2.1, 12, .inr (.inr (.inr (.inr (va_up (va_up (va_up (va_up (va_up (va_up (va_up (va_up (va_up (va_up (fun _ => none) 0 (some zN_5)) 1 (some zN_7)) 2 (some zN_9)) 3 (some zN_11)) 4 (some zN_13)) 5 (some zN_15)) 6 (some zN_17)) 7 (some zN_19)) 8 (some zN_21)) 9 (some zN_23)))))))] ++ (nW t zN_5 ((0, 0, 0, 0) : NV) ++ (nW t zN_7 ((0, 0, 0, 0) : NV) ++ (nW t zN_9 ((0, 0, 0, 0) : NV) ++ (nW t zN_11 ((0, 0, 0, 0) : NV) ++ (nW t zN_13 ((0, 0, 0, 0) : NV) ++ (nW t zN_15 ((0, 0, 0, 0) : NV) ++ (nW t zN_17 ((0, 0, 0, 0) : NV) ++ (nW t zN_19 ((0, 0, 0, 0) : NV) ++ (nW t zN_21 ((0, 0, 0, 0) : NV) ++ (nW t zN_23 ((0, 0, 0, 0) : NV) ++ (nW t u.1 u.2))))))))))))))) (fun u => (pm_r (pm_r (pm_r (pm_r (pm_r (pm_r (pm_r (pm_r (pm_r (pm_r (pm_r (pm_r (pm_r pm_0))))))))))))).symm) (r_runIN X hw (c_X3_init l D t q_24) (pm_r (pm_r (pm_r (pm_r (pm_r (pm_r (pm_r (pm_r (pm_r (pm_r (pm_r (pm_r (pm_r pm_0))))))))))))) (va_cnB 0 X.1.2.2.2.2 gX4_init_X3_init_n41 rfl rfl rfl (X.2.2.2.1.2.1 (RX4, 41, yX3_init, RX6) (by decide +kernel)) (X.1.2.2.2.2 _ iiX3_X4_init) (by decide +kernel) ⟨Nat.le_of_ble_eq_true rfl, Nat.le_of_ble_eq_true rfl⟩) rfl (X.1.2.2.2.2 _ inX3_init_X4_init) rfl hl rfl (Nat.le_of_ble_eq_true rfl) dX4_init_66 ⟨Nat.le_of_ble_eq_true rfl, Nat.le_of_ble_eq_true rfl⟩) (fun u H locs h hw2 => ?_)
  obtain ⟨zN_25, v9⟩ := u
  obtain ⟨h9, rfl⟩ : zN_25 = q_24 ∧ v9 = ((0, 0, 0, 0) : NV) := h
  subst h9
  have hw := hw2
  refine r_aast X hw 5 2 16 3 rfl (r := (RX3, TX3, 4)) rfl rfl rfl (vpl rfl) (wn := ([(h0, .inr (4, [.ref (BA.o zB_2), .int 0, .ref q_3, .int 0, .int 0, .int 0, .int 0]))] ++ (bW t zB_2 ((1, 1, 0, 0, 0, (fun _ => 0), (fun _ => 0), (fun _ => 0)) : BV) ++ ([(q_3, .inl (t.2.2.1, 12, .inr (.inr (.inr (.inr (va_up (va_up (va_up (va_up (va_up (va_up (va_up (va_up (va_up (va_up (va_up (fun _ => none) 0 (some zN_5)) 1 (some zN_7)) 2 (some zN_9)) 3 (some zN_11)) 4 (some zN_13)) 5 (some zN_15)) 6 (some zN_17)) 7 (some zN_19)) 8 (some zN_21)) 9 (some zN_23)) 10 (some zN_25)))))))] ++ (nW t zN_5 ((0, 0, 0, 0) : NV) ++ (nW t zN_7 ((0, 0, 0, 0) : NV) ++ (nW t zN_9 ((0, 0, 0, 0) : NV) ++ (nW t zN_11 ((0, 0, 0, 0) : NV) ++ (nW t zN_13 ((0, 0, 0, 0) : NV) ++ (nW t zN_15 ((0, 0, 0, 0) : NV) ++ (nW t zN_17 ((0, 0, 0, 0) : NV) ++ (nW t zN_19 ((0, 0, 0, 0) : NV) ++ (nW t zN_21 ((0, 0, 0, 0) : NV) ++ (nW t zN_23 ((0, 0, 0, 0) : NV) ++ (nW t zN_25 ((0, 0, 0, 0) : NV)))))))))))))))) rfl dX4_init_69 (fun H locs hw => ?_)
  refine lv_iinc (v := 11) (lv' := [(1, .int 11), (0, .ref h0)]) hx hb dX4_init_70 hl (k := 0) rfl (by decide) (by decide) rfl (fun ls hl => ?_)
  refine lv_goto (tgt := 51) hx hb dX4_init_73 (by decide) ?_
  refine lv_iload_n hx hb dX4_init_51 rfl (lv_at hl 0 rfl) ?_
  refine lv_bipush (v := 12) hx hb dX4_init_52 (by decide) ?_
  refine lv_icmp_ge (tgt := 76) hx hb dX4_init_54 (by decide) (fun h9 => absurd h9 (by decide)) (fun _ => ?_)
  refine lv_aload_n hx hb dX4_init_57 rfl (lv_at hl 1 rfl) ?_
  refine r_get (ci := 4) (C := RX4) (T := TX4) (N := 7) X hw 0 rfl rfl 2 (by decide) in_X4_init_X4 fl_X4_init_24 (v := .ref q_3) rfl dX4_init_58 ?_
  refine lv_iload_n hx hb dX4_init_61 rfl (lv_at hl 0 rfl) ?_
  refine r_new X hw (ci := 3) (C := RX3) (T := TX3) (N := 4) (fs := [.int 0, .int 0, .int 0, .int 0]) in_X4_init_X3 tyX3 tyX3_ok cl22_X4_init imX3_X4_init iiX3_X4_init rfl (fun j hj => by rcases (show j = 0 ∨ j = 1 ∨ j = 2 ∨ j = 3 by omega) with rfl | rfl | rfl | rfl <;> rfl) (Nat.le_of_ble_eq_true rfl) (Nat.le_of_ble_eq_true rfl) (wn := fun q_26 => ([(h0, .inr (4, [.ref (BA.o zB_2), .int 0, .ref q_3, .int 0, .int 0, .int 0, .int 0]))] ++ (bW t zB_2 ((1, 1, 0, 0, 0, (fun _ => 0), (fun _ => 0), (fun _ => 0)) : BV) ++ ([(q_3, .inl (t.2.2.1, 12, .inr (.inr (.inr (.inr (va_up (va_up (va_up (va_up (va_up (va_up (va_up (va_up (va_up (va_up (va_up (fun _ => none) 0 (some zN_5)) 1 (some zN_7)) 2 (some zN_9)) 3 (some zN_11)) 4 (some zN_13)) 5 (some zN_15)) 6 (some zN_17)) 7 (some zN_19)) 8 (some zN_21)) 9 (some zN_23)) 10 (some zN_25)))))))] ++ (nW t zN_5 ((0, 0, 0, 0) : NV) ++ (nW t zN_7 ((0, 0, 0, 0) : NV) ++ (nW t zN_9 ((0, 0, 0, 0) : NV) ++ (nW t zN_11 ((0, 0, 0, 0) : NV) ++ (nW t zN_13 ((0, 0, 0, 0) : NV) ++ (nW t zN_15 ((0, 0, 0, 0) : NV) ++ (nW t zN_17 ((0, 0, 0, 0) : NV) ++ (nW t zN_19 ((0, 0, 0, 0) : NV) ++ (nW t zN_21 ((0, 0, 0, 0) : NV) ++ (nW t zN_23 ((0, 0, 0, 0) : NV) ++ (nW t zN_25 ((0, 0, 0, 0) : NV) ++ ([(q_26, .inr (3, [.int 0, .int 0, .int 0, .int 0]))])))))))))))))))) (fun q => rfl) dX4_init_62 (fun q_26 H hw => ?_)
  refine lv_dup hx hb dX4_init_65 rfl ?_
  refine r_cv X hw (pm_r (pm_r (pm_r (pm_r (pm_r (pm_r (pm_r (pm_r (pm_r (pm_r (pm_r (pm_r (pm_r (pm_r pm_0)))))))))))))) (wn := fun (u : Nat × NV) => ([(h0, .inr (4, [.ref (BA.o zB_2), .int 0, .ref q_3, .int 0, .int 0, .int 0, .int 0]))] ++ (bW t zB_2 ((1, 1, 0, 0, 0, (fun _ => 0), (fun _ => 0), (fun _ => 0)) : BV) ++ ([(q_3, .inl (t.2.2.1, 12, .inr (.inr (.inr (.inr (va_up (va_up (va_up (va_up (va_up (va_up (va_up (va_up (va_up (va_up (va_up (fun _ => none) 0 (some zN_5)) 1 (some zN_7)) 2 (some zN_9)) 3 (some zN_11)) 4 (some zN_13)) 5 (some zN_15)) 6 (some zN_17)) 7 (some zN_19)) 8 (some zN_21)) 9 (some zN_23)) 10 (some zN_25)))))))] ++ (nW t zN_5 ((0, 0, 0, 0) : NV) ++ (nW t zN_7 ((0, 0, 0, 0) : NV) ++ (nW t zN_9 ((0, 0, 0, 0) : NV) ++ (nW t zN_11 ((0, 0, 0, 0) : NV) ++ (nW t zN_13 ((0, 0, 0, 0) : NV) ++ (nW t zN_15 ((0, 0, 0, 0) : NV) ++ (nW t zN_17 ((0, 0, 0, 0) : NV) ++ (nW t zN_19 ((0, 0, 0, 0) : NV) ++ (nW t zN_21 ((0, 0, 0, 0) : NV) ++ (nW t zN_23 ((0, 0, 0, 0) : NV) ++ (nW t zN_25 ((0, 0, 0, 0) : NV) ++ (nW t u.1 u.2)))))))))))))))) (fun u => (pm_r (pm_r (pm_r (pm_r (pm_r (pm_r (pm_r (pm_r (pm_r (pm_r (pm_r (pm_r (pm_r (pm_r pm_0)))))))))))))).symm) (r_runIN X hw (c_X3_init l D t q_26) (pm_r (pm_r (pm_r (pm_r (pm_r (pm_r (pm_r (pm_r (pm_r (pm_r (pm_r (pm_r (pm_r (pm_r pm_0)))))))))))))) (va_cnB 0 X.1.2.2.2.2 gX4_init_X3_init_n41 rfl rfl rfl (X.2.2.2.1.2.1 (RX4, 41, yX3_init, RX6) (by decide +kernel)) (X.1.2.2.2.2 _ iiX3_X4_init) (by decide +kernel) ⟨Nat.le_of_ble_eq_true rfl, Nat.le_of_ble_eq_true rfl⟩) rfl (X.1.2.2.2.2 _ inX3_init_X4_init) rfl hl rfl (Nat.le_of_ble_eq_true rfl) dX4_init_66 ⟨Nat.le_of_ble_eq_true rfl, Nat.le_of_ble_eq_true rfl⟩) (fun u H locs h hw2 => ?_)
  obtain ⟨zN_27, v9⟩ := u
  obtain ⟨h9, rfl⟩ : zN_27 = q_26 ∧ v9 = ((0, 0, 0, 0) : NV) := h
  subst h9
  have hw := hw2
  refine r_aast X hw 5 2 17 3 rfl (r := (RX3, TX3, 4)) rfl rfl rfl (vpl rfl) (wn := ([(h0, .inr (4, [.ref (BA.o zB_2), .int 0, .ref q_3, .int 0, .int 0, .int 0, .int 0]))] ++ (bW t zB_2 ((1, 1, 0, 0, 0, (fun _ => 0), (fun _ => 0), (fun _ => 0)) : BV) ++ ([(q_3, .inl (t.2.2.1, 12, .inr (.inr (.inr (.inr (va_up (va_up (va_up (va_up (va_up (va_up (va_up (va_up (va_up (va_up (va_up (va_up (fun _ => none) 0 (some zN_5)) 1 (some zN_7)) 2 (some zN_9)) 3 (some zN_11)) 4 (some zN_13)) 5 (some zN_15)) 6 (some zN_17)) 7 (some zN_19)) 8 (some zN_21)) 9 (some zN_23)) 10 (some zN_25)) 11 (some zN_27)))))))] ++ (nW t zN_5 ((0, 0, 0, 0) : NV) ++ (nW t zN_7 ((0, 0, 0, 0) : NV) ++ (nW t zN_9 ((0, 0, 0, 0) : NV) ++ (nW t zN_11 ((0, 0, 0, 0) : NV) ++ (nW t zN_13 ((0, 0, 0, 0) : NV) ++ (nW t zN_15 ((0, 0, 0, 0) : NV) ++ (nW t zN_17 ((0, 0, 0, 0) : NV) ++ (nW t zN_19 ((0, 0, 0, 0) : NV) ++ (nW t zN_21 ((0, 0, 0, 0) : NV) ++ (nW t zN_23 ((0, 0, 0, 0) : NV) ++ (nW t zN_25 ((0, 0, 0, 0) : NV) ++ (nW t zN_27 ((0, 0, 0, 0) : NV))))))))))))))))) rfl dX4_init_69 (fun H locs hw => ?_)
  refine lv_iinc (v := 12) (lv' := [(1, .int 12), (0, .ref h0)]) hx hb dX4_init_70 hl (k := 0) rfl (by decide) (by decide) rfl (fun ls hl => ?_)
  refine lv_goto (tgt := 51) hx hb dX4_init_73 (by decide) ?_
  refine lv_iload_n hx hb dX4_init_51 rfl (lv_at hl 0 rfl) ?_
  refine lv_bipush (v := 12) hx hb dX4_init_52 (by decide) ?_
  refine lv_icmp_ge (tgt := 76) hx hb dX4_init_54 (by decide) (fun _ => ?_) (fun h9 => absurd h9 (by decide))
  have hw : Wd D A s.heap ([(h0, .inr (4, [.ref (BA.o zB_2), .int 0, .ref q_3, .int 0, .int 0, .int 0, .int 0]))] ++ (bW t zB_2 ((1, 1, 0, 0, 0, (fun _ => 0), (fun _ => 0), (fun _ => 0)) : BV) ++ ([(q_3, .inl (t.2.2.1, 12, .inr (.inr (.inr (.inr (fun j => some ((fun j => ([zN_5, zN_7, zN_9, zN_11, zN_13, zN_15, zN_17, zN_19, zN_21, zN_23, zN_25, zN_27] : List Nat).getD j zN_5) j)))))))] ++ (nW t zN_5 ((0, 0, 0, 0) : NV) ++ (nW t zN_7 ((0, 0, 0, 0) : NV) ++ (nW t zN_9 ((0, 0, 0, 0) : NV) ++ (nW t zN_11 ((0, 0, 0, 0) : NV) ++ (nW t zN_13 ((0, 0, 0, 0) : NV) ++ (nW t zN_15 ((0, 0, 0, 0) : NV) ++ (nW t zN_17 ((0, 0, 0, 0) : NV) ++ (nW t zN_19 ((0, 0, 0, 0) : NV) ++ (nW t zN_21 ((0, 0, 0, 0) : NV) ++ (nW t zN_23 ((0, 0, 0, 0) : NV) ++ (nW t zN_25 ((0, 0, 0, 0) : NV) ++ (nW t zN_27 ((0, 0, 0, 0) : NV)))))))))))))))) H locs := Wd.qcong (p := ([(h0, .inr (4, [.ref (BA.o zB_2), .int 0, .ref q_3, .int 0, .int 0, .int 0, .int 0]))] ++ (bW t zB_2 ((1, 1, 0, 0, 0, (fun _ => 0), (fun _ => 0), (fun _ => 0)) : BV)))) (r := (nW t zN_5 ((0, 0, 0, 0) : NV) ++ (nW t zN_7 ((0, 0, 0, 0) : NV) ++ (nW t zN_9 ((0, 0, 0, 0) : NV) ++ (nW t zN_11 ((0, 0, 0, 0) : NV) ++ (nW t zN_13 ((0, 0, 0, 0) : NV) ++ (nW t zN_15 ((0, 0, 0, 0) : NV) ++ (nW t zN_17 ((0, 0, 0, 0) : NV) ++ (nW t zN_19 ((0, 0, 0, 0) : NV) ++ (nW t zN_21 ((0, 0, 0, 0) : NV) ++ (nW t zN_23 ((0, 0, 0, 0) : NV) ++ (nW t zN_25 ((0, 0, 0, 0) : NV) ++ (nW t zN_27 ((0, 0, 0, 0) : NV)))))))))))))) hw (fun j hj => by rcases cases12 hj with rfl | rfl | rfl | rfl | rfl | rfl | rfl | rfl | rfl | rfl | rfl | rfl <;> rfl)
  have hw : Wd D A s.heap (sW t (h0, zB_2, q_3, (fun j => ([zN_5, zN_7, zN_9, zN_11, zN_13, zN_15, zN_17, zN_19, zN_21, zN_23, zN_25, zN_27] : List Nat).getD j zN_5)) (((1, 1, 0, 0, 0, (fun _ => 0), (fun _ => 0), (fun _ => 0)) : BV), 0, (fun _ => ((0, 0, 0, 0) : NV)), 0, 0, 0, 0)) H locs := hw
  exact e_v (w1 := fun (u : SA × SV) => sW t u.1 u.2) X ((h0, zB_2, q_3, (fun j => ([zN_5, zN_7, zN_9, zN_11, zN_13, zN_15, zN_17, zN_19, zN_21, zN_23, zN_25, zN_27] : List Nat).getD j zN_5)), (((1, 1, 0, 0, 0, (fun _ => 0), (fun _ => 0), (fun _ => 0)) : BV), 0, (fun _ => ((0, 0, 0, 0) : NV)), 0, 0, 0, 0)) hw ⟨rfl, rfl⟩ dX4_init_76
