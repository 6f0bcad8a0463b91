/-! the law from its entry: the object, the four arrays, the turns -/
section LL
variable {p : Program} {l : Launch} {e : Env} {s : State} {m : MethodId} {below : List Frame} {meth : Method} {c : Code} {D : va_G} {t : T3} {A : Nat → Prop} {b L : Nat} {xs : Nat → Int32}
set_option maxHeartbeats 4000000 in
set_option maxRecDepth 100000 in
theorem law_loop (X : Cx p s m meth c #[Value.ref b] cL_law 11 (some .boolean) RL wsL_law D t A) (hL : L ≤ 260) (hX : va_X b L xs s s.heap) (hbl : b < s.heap.size) (hbA : ¬ A b) (hAr : ∀ q : Nat, A q → s.heap.size ≤ q) (aX : XA) (aI28 aI48 aI281 aI481 : Nat) : ∀ d i : Nat, i + d = 20 → ∀ (vX : XV) (vI28 vI48 vI281 vI481 : IV) (H : Heap) (locs : List Loc) (ls : Array Slot), lvI vX vI28 vI48 → Wd D A s.heap (xW t aX vX ++ (i28W t aI28 vI28 ++ (i48W t aI48 vI48 ++ (i28W t aI281 vI281 ++ (i48W t aI481 vI481))))) H locs → lv_has ls 11 [(0, .ref b), (1, .ref (XA.o aX)), (2, .ref aI28), (3, .ref aI48), (4, .ref aI281), (5, .ref aI481), (6, .int (nI i))] → W p l e room_1 s m #[Value.ref b] below meth c H locs (200 + 20 * i + 20) (5000 + 500 * i + 500) (lw_Z below #[Value.ref b] s) (F0 m 85 ls []) := by
  have hx := X.1.1
  have hb := X.1.2.1
  intro d
  induction d with
  | zero =>
    intro i hi vX vI28 vI48 vI281 vI481 H locs ls hv hw hl
    obtain rfl : i = 20 := by omega
    refine lv_iload hx hb dL_law_85 (lv_at hl 6 rfl) ?_
    refine lv_bipush (v := 20) hx hb dL_law_87 (by decide) ?_
    refine lv_icmp_ge (tgt := 324) hx hb dL_law_89 (by decide) (fun _ => ?_) (fun c1 => absurd (by decide) c1)
    refine lv_iconst (v := 1) hx hb dL_law_324 (by decide) ?_
    refine va_forget (fun q hq => hAr _ (hw.2.2.2.2 q hq)) ?_
    refine W.widen (k := 600130) (n := 7301080) (by omega) (by omega) ?_
    refine W.base ?_
    exact lw_ret (Drawn.sameBut.refl s.drawn lw_cs) hx hb X.2.1 X.2.2.1 dL_law_325
  | succ d ih =>
    intro i hi vX vI28 vI48 vI281 vI481 H locs ls hv hw hl
    refine lv_iload hx hb dL_law_85 (lv_at hl 6 rfl) ?_
    refine lv_bipush (v := 20) hx hb dL_law_87 (by decide) ?_
    refine lv_icmp_ge (tgt := 324) hx hb dL_law_89 (by decide) (fun c1 => ?_) (fun _ => ?_)
    · exfalso
      rw [nn_lit 20, nI_leI (by omega) (by omega)] at c1
      omega
    · refine W.widen (k := 200 + 20 * (i + 1) + 0) (n := 5000 + 500 * (i + 1) + 0) (by omega) (by omega) ?_
      refine k_L_lawB (i := i + 1) X hL (by omega) hX hbl hbA aX aI28 aI48 aI281 aI481 (Q := fun v b ti _ _ x6 => lvI v b ti ∧ x6 = nI i) (fun vX vI28 vI48 vI281 vI481 x6 H locs ls hq hw hl => ?_) vX vI28 vI48 vI281 vI481 (nI i) H locs ls (lp_B (by omega) hv (fun v' b' ti' b2' t2' hv' => ⟨hv', rfl⟩)) hw hl
      obtain ⟨hv', rfl⟩ := hq
      refine lv_iinc (v := nI (i + 1)) (lv' := [(6, .int (nI (i + 1))), (0, .ref b), (1, .ref (XA.o aX)), (2, .ref aI28), (3, .ref aI48), (4, .ref aI281), (5, .ref aI481)]) hx hb dL_law_318 hl (k := 6) rfl (nI_1 i) (by decide) rfl (fun ls hl => ?_)
      refine lv_goto (tgt := 85) hx hb dL_law_321 (by decide) ?_
      exact ih (i + 1) (by omega) vX vI28 vI48 vI281 vI481 H locs ls hv' hw (lv_sub hl [1, 2, 3, 4, 5, 6, 0] rfl)
end LL
set_option maxHeartbeats 4000000 in
set_option maxRecDepth 100000 in
theorem whole_start {p : Program} {e : Env} {s : State} {m : MethodId} {below : List Frame} {meth : Method} {c : Code} (l : Launch) (hflags : l.flags = flags0) {b L : Nat} {xs : Nat → Int32} (hL : L ≤ 260) (C0 : lw_At p s m meth c b L xs) : W p l e room_1 s m #[Value.ref b] below meth c s.heap [] 0 0 (lw_Z below #[Value.ref b] s) (entryFrame m ([Value.ref b] : List Value).toArray 11) := by
  obtain ⟨hx, hb, hr, hml, hown, hts, hX, hbl, hlocks, hgv⟩ := C0
  obtain ⟨D, t, hK⟩ := st_KN hts
  have hbA : ¬ (fun q : Nat => s.heap.size ≤ q) b := Nat.not_le.mpr hbl
  have X : Cx p s m meth c #[Value.ref b] cL_law 11 (some .boolean) RL wsL_law D t (fun q : Nat => s.heap.size ≤ q) := ⟨⟨hx, hb, hml, hown, fun w h => hts w (wsL_law_in w h)⟩, hr, hlocks, hK, fun _ h => h, trivial⟩
  have hw : Wd D (fun q : Nat => s.heap.size ≤ q) s.heap [] s.heap [] := ⟨fun k q h => by simp at h, ⟨fun i j p q h => by simp at h, fun k q h => by simp at h⟩, va_S.rf⟩
  have hl := lv_entry ([.ref b]) (n := 11) (Nat.le_of_ble_eq_true rfl)
  rw [lg_entry_eq]
  generalize (lg_sl ([.ref b]) ++ List.replicate (11 - (lg_sl ([.ref b])).length) Slot.unset).toArray = ls at hl ⊢
  have hl : lv_has ls 11 [(0, .ref b)] := hl
  refine r_new X hw (ci := 6) (C := RX6) (T := TX6) (N := 6) (fs := [.null, .null, .null, .null, .null, .null]) inlX6 tyX6 tyX6_ok (List.mem_of_getElem? (i := 0) (by decide +kernel)) (List.mem_of_getElem? (i := 1) (by decide +kernel)) (List.mem_of_getElem? (i := 2) (by decide +kernel)) rfl (fun j hj => by rcases (show j = 0 ∨ j = 1 ∨ j = 2 ∨ j = 3 ∨ j = 4 ∨ j = 5 by omega) with rfl | rfl | rfl | rfl | rfl | rfl <;> rfl) (Nat.le_of_ble_eq_true rfl) (Nat.le_of_ble_eq_true rfl) (wn := fun q => [(q, .inr (6, [.null, .null, .null, .null, .null, .null]))]) (fun q => rfl) dL_law_0 (fun q1 H hw => ?_)
  refine lv_dup hx hb dL_law_3 rfl ?_
  refine r_cv X hw pm_0 (wn := fun (u : XA × XV) => xW t u.1 u.2) (fun u => pm_0.symm) (r_runI X hw (c_X6_init l D t q1) pm_0 (cwI 0 X.1.2.2.2.2 gL_law_X6_init rfl rfl rfl (X.1.2.2.2.2 _ (List.mem_of_getElem? (i := 2) (by decide +kernel))) (X.1.2.2.2.2 _ (List.mem_of_getElem? (i := 5) (by decide +kernel))) (X.1.2.2.2.2 _ (List.mem_of_getElem? (i := 6) (by decide +kernel))) rfl (by decide +kernel) ⟨(Nat.le_of_ble_eq_true rfl), (Nat.le_of_ble_eq_true rfl)⟩) rfl hl rfl (Nat.le_of_ble_eq_true rfl) dL_law_4 ⟨(Nat.le_of_ble_eq_true rfl), (Nat.le_of_ble_eq_true rfl)⟩) (fun u H locs h hw => ?_)
  obtain ⟨aX, vX⟩ := u
  obtain ⟨rfl, rfl⟩ : XA.o aX = q1 ∧ vX = v0X := h
  refine lv_astore_n (lv' := [(1, .ref (XA.o aX)), (0, .ref b)]) hx hb dL_law_7 rfl hl (by decide) rfl (fun ls hl => ?_)
  refine lv_bipush (v := 28) hx hb dL_law_8 (by decide) ?_
  refine r_newI X hw (List.mem_of_getElem? (i := 3) (by decide +kernel)) (by decide) (N := 28) (by decide) (by decide) (Nat.le_of_ble_eq_true rfl) (Nat.le_of_ble_eq_true rfl) (wn := fun aI28 => (xW t aX v0X ++ (i28W t aI28 (fun _ => 0)))) (fun q => ap_1 _ _) dL_law_10 (fun aI28 H hw => ?_)
  refine lv_astore_n (lv' := [(2, .ref aI28), (1, .ref (XA.o aX)), (0, .ref b)]) hx hb dL_law_12 rfl hl (by decide) rfl (fun ls hl => ?_)
  refine lv_bipush (v := 48) hx hb dL_law_13 (by decide) ?_
  refine r_newI X hw (List.mem_of_getElem? (i := 3) (by decide +kernel)) (by decide) (N := 48) (by decide) (by decide) (Nat.le_of_ble_eq_true rfl) (Nat.le_of_ble_eq_true rfl) (wn := fun aI48 => (xW t aX v0X ++ (i28W t aI28 (fun _ => 0) ++ (i48W t aI48 (fun _ => 0))))) (fun q => ap_2 _ _ _) dL_law_15 (fun aI48 H hw => ?_)
  refine lv_astore_n (lv' := [(3, .ref aI48), (2, .ref aI28), (1, .ref (XA.o aX)), (0, .ref b)]) hx hb dL_law_17 rfl hl (by decide) rfl (fun ls hl => ?_)
  refine lv_bipush (v := 28) hx hb dL_law_18 (by decide) ?_
  refine r_newI X hw (List.mem_of_getElem? (i := 3) (by decide +kernel)) (by decide) (N := 28) (by decide) (by decide) (Nat.le_of_ble_eq_true rfl) (Nat.le_of_ble_eq_true rfl) (wn := fun aI281 => (xW t aX v0X ++ (i28W t aI28 (fun _ => 0) ++ (i48W t aI48 (fun _ => 0) ++ (i28W t aI281 (fun _ => 0)))))) (fun q => ap_3 _ _ _ _) dL_law_20 (fun aI281 H hw => ?_)
  refine lv_astore (lv' := [(4, .ref aI281), (3, .ref aI48), (2, .ref aI28), (1, .ref (XA.o aX)), (0, .ref b)]) hx hb dL_law_22 hl (by decide) rfl (fun ls hl => ?_)
  refine lv_bipush (v := 48) hx hb dL_law_24 (by decide) ?_
  refine r_newI X hw (List.mem_of_getElem? (i := 3) (by decide +kernel)) (by decide) (N := 48) (by decide) (by decide) (Nat.le_of_ble_eq_true rfl) (Nat.le_of_ble_eq_true rfl) (wn := fun aI481 => (xW t aX v0X ++ (i28W t aI28 (fun _ => 0) ++ (i48W t aI48 (fun _ => 0) ++ (i28W t aI281 (fun _ => 0) ++ (i48W t aI481 (fun _ => 0))))))) (fun q => ap_4 _ _ _ _ _) dL_law_26 (fun aI481 H hw => ?_)
  refine lv_astore (lv' := [(5, .ref aI481), (4, .ref aI281), (3, .ref aI48), (2, .ref aI28), (1, .ref (XA.o aX)), (0, .ref b)]) hx hb dL_law_28 hl (by decide) rfl (fun ls hl => ?_)
  refine W.widen (k := 200 + 20 * 0 + 0) (n := 5000 + 500 * 0 + 0) (Nat.le_of_ble_eq_true rfl) (Nat.le_of_ble_eq_true rfl) ?_
  refine k_L_lawA (i := 0) X hL (by omega) hX hbl hbA aX aI28 aI48 aI281 aI481 (Q := fun v b ti _ _ => lvI v b ti) (fun vX vI28 vI48 vI281 vI481 H locs ls hv hw hl => ?_) v0X (fun _ => 0) (fun _ => 0) (fun _ => 0) (fun _ => 0) H locs ls (lp_A (fun _ _ _ _ _ hv => hv)) hw (lv_sub hl [5, 4, 3, 2, 1, 0] rfl)
  refine lv_iconst (v := 0) hx hb dL_law_82 (by decide) ?_
  refine lv_istore (lv' := [(6, .int 0), (0, .ref b), (1, .ref (XA.o aX)), (2, .ref aI28), (3, .ref aI48), (4, .ref aI281), (5, .ref aI481)]) hx hb dL_law_83 hl (by decide) rfl (fun ls hl => ?_)
  exact law_loop X hL hX hbl hbA (fun _ h => h) aX aI28 aI48 aI281 aI481 20 0 rfl vX vI28 vI48 vI281 vI481 H locs ls hv hw (lv_sub hl [1, 2, 3, 4, 5, 6, 0] rfl)
