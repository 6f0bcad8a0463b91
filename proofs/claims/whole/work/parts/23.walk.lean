/-! the law from its entry: the two objects, the array, then the loop -/
def v0X : XV := (((emB ((1, 1, 0, 0, 0, (fun _ => 0), (fun _ => 0), (fun _ => 0)) : BV) 2 2), (((fun _ => ((1, 1, 0, 0, 0, (fun _ => 0), (fun _ => 0), (fun _ => 0)) : BV)), 0, 0) : HV), (((fun _ => 0), 0) : TV), ((0, 0, 0, 0) : NV), ((((1, 1, 0, 0, 0, (fun _ => 0), (fun _ => 0), (fun _ => 0)) : BV), 0, (fun _ => ((0, 0, 0, 0) : NV)), 0, 0, 0, 0) : SV), ((1, 1, 1) : DV)) : XV)
def v0M : MV := ((MV.s_z (0, (upd (upd (fun _ => 0) 0 2) 1 2), 0, (fun _ => 0), 0, (fun _ => 0), (fun _ => 0), 0, 0, 0, (fun _ => 0), 0, 0, (fun _ => 0), (fun _ => 0), 0) (emz (MV.z (0, (upd (upd (fun _ => 0) 0 2) 1 2), 0, (fun _ => 0), 0, (fun _ => 0), (fun _ => 0), 0, 0, 0, (fun _ => 0), 0, 0, (fun _ => 0), (fun _ => 0), 0)) 12)) : MV)
set_option maxHeartbeats 4000000 in
set_option maxRecDepth 100000 in
theorem whole_walk {p : Program} {e : Env} {s : State} {m : MethodId} {below : List Frame} {meth : Method} {c : Code} (l : Launch) (hflags : l.flags = flags0) {b L : Nat} {xs : Nat → Int32} (hL : L ≤ 2048) (C0 : lw_At p s m meth c b L xs) (Inv : XV → MV → OV → Prop) (h0 : Inv v0X v0M (fun _ => 0)) (step : ∀ (i : Nat) (vX : XV) (vM : MV) (vO : OV), i + 4 ≤ L → Inv vX vM vO → wp_L_law_32 xs i Inv vX vM vO) : W p l e room_1 s m #[Value.ref b] below meth c s.heap [] 0 0 (lw_Z below #[Value.ref b] s) (entryFrame m ([Value.ref b] : List Value).toArray 9) := by
  obtain ⟨hx, hb, hr, hml, hown, hts, hX, hbl, hlocks, hgv⟩ := C0
  obtain ⟨D, t, hK⟩ := st_KN hts hgv
  have hZ := st_ZA hts hgv
  have hfl : l.stackTraces = false := by
    unfold Launch.stackTraces
    rw [hflags]
    decide +kernel
  have hbA : ¬ (fun q : Nat => s.heap.size ≤ q) b := Nat.not_le.mpr hbl
  have X : Cx p s m meth c #[Value.ref b] cL_law 9 (some .boolean) RL wsL_law D t (fun q : Nat => s.heap.size ≤ q) := ⟨⟨hx, hb, hml, hown, fun w h => hts w (wsL_law_in w h)⟩, hr, hlocks, hK, fun _ h => h, hZ⟩
  have hw : Wd D (fun q : Nat => s.heap.size ≤ q) s.heap [] s.heap [] := ⟨fun k q h => by simp at h, ⟨fun i j p q h => by simp at h, fun k q h => by simp at h⟩, va_S.rf⟩
  have hl := lv_entry ([.ref b]) (n := 9) (Nat.le_of_ble_eq_true rfl)
  rw [lg_entry_eq]
  generalize (lg_sl ([.ref b]) ++ List.replicate (9 - (lg_sl ([.ref b])).length) Slot.unset).toArray = ls at hl ⊢
  have hl : lv_has ls 9 [(0, .ref b)] := hl
  refine r_new X hw (ci := 6) (C := RX6) (T := TX6) (N := 6) (fs := [.null, .null, .null, .null, .null, .null]) inlX6 tyX6 tyX6_ok (List.mem_of_getElem? (i := 0) (by decide +kernel)) (List.mem_of_getElem? (i := 1) (by decide +kernel)) (List.mem_of_getElem? (i := 2) (by decide +kernel)) rfl (fun j hj => by rcases (show j = 0 ∨ j = 1 ∨ j = 2 ∨ j = 3 ∨ j = 4 ∨ j = 5 by omega) with rfl | rfl | rfl | rfl | rfl | rfl <;> rfl) (Nat.le_of_ble_eq_true rfl) (Nat.le_of_ble_eq_true rfl) (wn := fun q => [(q, .inr (6, [.null, .null, .null, .null, .null, .null]))]) (fun q => rfl) dL_law_0 (fun q1 H hw => ?_)
  refine lv_dup hx hb dL_law_3 rfl ?_
  refine r_cv X hw pm_0 (wn := fun (u : XA × XV) => xW t u.1 u.2) (fun u => pm_0.symm) (r_runI X hw (c_X6_init l D t q1) pm_0 (cwI 0 X.1.2.2.2.2 gL_law_X6_init rfl rfl rfl (X.1.2.2.2.2 _ (List.mem_of_getElem? (i := 2) (by decide +kernel))) (X.1.2.2.2.2 _ (List.mem_of_getElem? (i := 7) (by decide +kernel))) (X.1.2.2.2.2 _ (List.mem_of_getElem? (i := 8) (by decide +kernel))) rfl (by decide +kernel) ⟨(Nat.le_of_ble_eq_true rfl), (Nat.le_of_ble_eq_true rfl)⟩) rfl hl rfl (Nat.le_of_ble_eq_true rfl) dL_law_4 ⟨(Nat.le_of_ble_eq_true rfl), (Nat.le_of_ble_eq_true rfl)⟩) (fun u H locs h hw => ?_)
  obtain ⟨aX, vX⟩ := u
  obtain ⟨rfl, rfl⟩ : XA.o aX = q1 ∧ vX = v0X := h
  refine lv_astore_n (lv' := [(1, .ref (XA.o aX)), (0, .ref b)]) hx hb dL_law_7 rfl hl (by decide) rfl (fun ls hl => ?_)
  refine r_new X hw (ci := 7) (C := RX7) (T := TX7) (N := 16) (fs := [.int 0, .null, .int 0, .null, .int 0, .null, .null, .int 0, .int 0, .int 0, .null, .int 0, .int 0, .null, .null, .long 0]) inlX7 tyX7 tyX7_ok (List.mem_of_getElem? (i := 3) (by decide +kernel)) (List.mem_of_getElem? (i := 4) (by decide +kernel)) (List.mem_of_getElem? (i := 5) (by decide +kernel)) rfl (fun j hj => by rcases (show j = 0 ∨ j = 1 ∨ j = 2 ∨ j = 3 ∨ j = 4 ∨ j = 5 ∨ j = 6 ∨ j = 7 ∨ j = 8 ∨ j = 9 ∨ j = 10 ∨ j = 11 ∨ j = 12 ∨ j = 13 ∨ j = 14 ∨ j = 15 by omega) with rfl | rfl | rfl | rfl | rfl | rfl | rfl | rfl | rfl | rfl | rfl | rfl | rfl | rfl | rfl | rfl <;> rfl) (Nat.le_of_ble_eq_true rfl) (Nat.le_of_ble_eq_true rfl) (wn := fun q => xW t aX v0X ++ [(q, .inr (7, [.int 0, .null, .int 0, .null, .int 0, .null, .null, .int 0, .int 0, .int 0, .null, .int 0, .int 0, .null, .null, .long 0]))]) (fun q => rfl) dL_law_8 (fun q2 H hw => ?_)
  refine lv_dup hx hb dL_law_11 rfl ?_
  refine r_cv X hw (pm_r pm_0) (wn := fun (u : MA × MV) => xW t aX v0X ++ mW t u.1 u.2) (fun u => (pm_r pm_0).symm) (r_runI X hw (c_X7_init l D t q2) (pm_r pm_0) (cwI 0 X.1.2.2.2.2 gL_law_X7_init rfl rfl rfl (X.1.2.2.2.2 _ (List.mem_of_getElem? (i := 5) (by decide +kernel))) (X.1.2.2.2.2 _ (List.mem_of_getElem? (i := 92) (by decide +kernel))) (X.1.2.2.2.2 _ (List.mem_of_getElem? (i := 93) (by decide +kernel))) rfl (by decide +kernel) ⟨(Nat.le_of_ble_eq_true rfl), (Nat.le_of_ble_eq_true rfl)⟩) rfl hl rfl (Nat.le_of_ble_eq_true rfl) dL_law_12 ⟨(Nat.le_of_ble_eq_true rfl), (Nat.le_of_ble_eq_true rfl)⟩) (fun u H locs h hw => ?_)
  obtain ⟨aM, vM⟩ := u
  obtain ⟨rfl, rfl⟩ : MA.o aM = q2 ∧ vM = v0M := h
  refine lv_astore_n (lv' := [(2, .ref (MA.o aM)), (1, .ref (XA.o aX)), (0, .ref b)]) hx hb dL_law_15 rfl hl (by decide) rfl (fun ls hl => ?_)
  refine lv_iconst (v := 1) hx hb dL_law_16 (by decide) ?_
  refine r_newL X hw (X.1.2.2.2.2 _ (List.mem_of_getElem? (i := 6) (by decide +kernel))) (N := 1) (by decide) (by decide) (by decide) (Nat.le_of_ble_eq_true rfl) (Nat.le_of_ble_eq_true rfl) (wn := fun q => xW t aX v0X ++ (mW t aM v0M ++ oW t q (fun _ => 0))) (fun q => List.append_assoc _ _ _) dL_law_17 (fun q3 H hw => ?_)
  refine lv_astore_n (lv' := [(3, .ref q3), (2, .ref (MA.o aM)), (1, .ref (XA.o aX)), (0, .ref b)]) hx hb dL_law_19 rfl hl (by decide) rfl (fun ls hl => ?_)
  refine lv_iconst (v := 0) hx hb dL_law_20 (by decide) ?_
  refine lv_istore (lv' := [(4, .int 0), (3, .ref q3), (2, .ref (MA.o aM)), (1, .ref (XA.o aX)), (0, .ref b)]) hx hb dL_law_21 hl (by decide) rfl (fun ls hl => ?_)
  refine W.widen (k := 100 + 0) (n := 3000 + 6 * 0) (Nat.le_of_ble_eq_true rfl) (Nat.le_of_ble_eq_true rfl) ?_
  exact k_L_law_loop X hfl hL hX hbl hbA (fun _ h => h) aX aM q3 Inv step L 0 (by omega) (by omega) _ _ _ H _ ls h0 hw (lv_sub hl [4, 3, 2, 1, 0] rfl)
