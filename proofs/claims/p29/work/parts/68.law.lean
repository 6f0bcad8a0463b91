/-! the law's script: one int of it, by the law's own method; the law's walk in pieces -/
section RL
variable {p : Program} {l : Launch} {e : Env} {R : Room} {s : State} {m : MethodId} {args : Array Value} {below : List Frame} {meth : Method} {c : Code} {H : Heap} {locs : List Loc} {cells slots : Nat} {Q : State → Prop}
variable {cc : ByteArray} {nL : Nat} {ret : Option FieldType} {own : String} {Ts : List Cond} {D : va_G} {t : T3} {A : Nat → Prop} {ws : va_W} {pc : Nat} {ls : Array Slot} {rest : List Value} {b L : Nat} {xs : Nat → Int32}
theorem r_sld (X : Cx p s m meth c args cc nL ret own Ts D t A) (hw : Wd D A s.heap ws H locs) (hX : va_X b L xs s s.heap) (hbl : b < s.heap.size) (hbA : ¬ A b) (hL : L ≤ 2048) {j : Nat} (hj : j < L) (hdg : decode cc pc = .ok (.iaload, 1))
    (kk : W p l e R s m args below meth c H locs cells slots Q (F0 m (pc + 1) ls (.int (xs j) :: rest))) : W p l e R s m args below meth c H locs cells slots Q (F0 m pc ls (.int (nI j) :: .ref b :: rest)) := by
  refine va_sld X.1.1 X.1.2.1 hX hbl hbA hw.2.2 (i := nI j) (vp_in_nI hj (by omega)) hdg ?_
  rw [nI_clamp (by omega)]
  exact kk
theorem r_slen (X : Cx p s m meth c args cc nL ret own Ts D t A) (hw : Wd D A s.heap ws H locs) (hX : va_X b L xs s s.heap) (hbl : b < s.heap.size) (hbA : ¬ A b) (hdg : decode cc pc = .ok (.arraylength, 1))
    (kk : W p l e R s m args below meth c H locs cells slots Q (F0 m (pc + 1) ls (.int (nI L) :: rest))) : W p l e R s m args below meth c H locs cells slots Q (F0 m pc ls (.ref b :: rest)) :=
  va_slen X.1.1 X.1.2.1 hX hbl hbA hw.2.2 hdg kk
end RL
/-- what the law's 'cell' asks: the script, as it was -/
def PcS (b : Nat) (k : Int32) (L : Nat) (xs : Nat → Int32) (D : va_G) (t : T3) (sz : Nat) : Array Value → State → Prop := va_Pc [.ref b, .int k] (fun U => U.heap.size = sz ∧ KN D t U ∧ va_X b L xs U U.heap ∧ b < U.heap.size)
theorem va_X.to {b L : Nat} {xs : Nat → Int32} {s U : State} {H : Heap} (h : va_X b L xs s H) (hv : s.vm.Alike U.vm) {H1 : Heap} (he : H1[b]? = H[b]?) : va_X b L xs U H1 := by
  obtain ⟨scr, h1, h2, h3, h4, h5⟩ := h
  exact ⟨scr, he.trans h1, State.isArrayOf_alike hv h2, h3, h4, h5⟩
theorem PcS.blind {b : Nat} {k : Int32} {L : Nat} {xs : Nat → Int32} {D : va_G} {t : T3} {sz : Nat} : FrameBlind (PcS b k L xs D t sz) := fun a U g mk q => ⟨q.1, q.2.1, KN.same (U := U.calling g mk a) rfl q.2.2.1, va_X.to (U := U.calling g mk a) q.2.2.2.1 (Vm.Alike.refl _) rfl, q.2.2.2.2⟩
theorem kL_cell_7 : Cond.constant RL 7 (1540483477) ∈ wsL_cell := List.mem_of_getElem? (i := 1) rfl
set_option maxHeartbeats 4000000 in
set_option maxRecDepth 100000 in
theorem cS_cell (l : Launch) (D : va_G) (t : T3) (b L j : Nat) (xs : Nat → Int32) (hL : L ≤ 260) (hj : j < 1000) : ∀ sz : Nat, Met l yL_cell wsL_cell ({ frames := 0, cells := 0, slots := 0, locals := 0 }) (PcS b (nI j) L xs D t sz) (Qi D [] (fun (_ : Unit) => ([] : va_W)) (fun (_ : Int32) (_ : Unit) => True) sz) 0 0 (va_A [] sz) := by
  intro sz
  refine Met.ofW (cc := cL_cell) (maxL := 2) (ret := (some .int)) (by decide) rfl ?_
  intro p e s m args below meth c s₁ B hml hv
  obtain ⟨rfl, hsz, hK, hX, hbl⟩ := hv
  subst hsz
  have hts := atoms_spec (ws := wsL_cell) B.pre
  have hl := lv_entry ([.ref b, .int (nI j)]) (n := 2) (Nat.le_of_ble_eq_true rfl)
  rw [lg_entry_eq]
  generalize (lg_sl ([.ref b, .int (nI j)]) ++ List.replicate (2 - (lg_sl ([.ref b, .int (nI j)])).length) Slot.unset).toArray = ls at hl ⊢
  have hl : lv_has ls 2 [(0, .ref b), (1, .int (nI j))] := hl
  have X : Cx p s m meth c #[.ref b, .int (nI j)] cL_cell 2 (some .int) RL wsL_cell D t (va_A [] s.heap.size) := ⟨⟨B.exec, B.bytes, hml, findClass_of_methodNamed B.named, hts⟩, B.returns, B.notSynchronized, hK, fun q h => Or.inr h, trivial⟩
  have hw : Wd D (va_A [] s.heap.size) s.heap [] s.heap [] := ⟨fun k q h => by simp at h, ⟨fun i j p q h => by simp at h, fun k q h => by simp at h⟩, va_S.rf⟩
  have hbA : ¬ va_A [] s.heap.size b := fun z => by
    rcases z with ⟨k, e, hk⟩ | z
    · simp at hk
    · exact absurd z (Nat.not_le.mpr hbl)
  have hx := X.1.1
  have hb := X.1.2.1
  have fin : ∀ (v : Int32) (ls : Array Slot), W p l e ({ frames := 0, cells := 0, slots := 0, locals := 0 }) s m #[.ref b, .int (nI j)] below meth c s.heap [] 0 0 (Ei below #[.ref b, .int (nI j)] s (va_A [] s.heap.size) D (fun (_ : Unit) => ([] : va_W)) (fun (_ : Int32) (_ : Unit) => True) 0 0) (F0 m 18 ls [.int v]) := fun v ls => e_i (w1 := fun (_ : Unit) => ([] : va_W)) X () hw trivial dL_cell_18
  refine lv_iload_n hx hb dL_cell_0 rfl (lv_at hl 1 rfl) ?_
  refine lv_aload_n hx hb dL_cell_1 rfl (lv_at hl 0 rfl) ?_
  refine r_slen X hw hX hbl hbA dL_cell_2 ?_
  refine lv_icmp_ge (tgt := 12) hx hb dL_cell_3 (by decide) (fun c1 => ?_) (fun c1 => ?_)
  · refine lv_ldc (v := 1540483477) hx hb X.1.2.2.2.1 (X.1.2.2.2.2 _ kL_cell_7) dL_cell_12 ?_
    refine lv_iload_n hx hb dL_cell_14 rfl (lv_at hl 1 rfl) ?_
    refine lv_iconst (v := 1) hx hb dL_cell_15 (by decide) ?_
    refine lv_iadd hx hb dL_cell_16 ?_
    refine lv_imul hx hb dL_cell_17 ?_
    exact fin _ _
  · have hjL : j < L := by
      rw [nI_leI (by omega) (by omega)] at c1
      omega
    refine lv_aload_n hx hb dL_cell_6 rfl (lv_at hl 0 rfl) ?_
    refine lv_iload_n hx hb dL_cell_7 rfl (lv_at hl 1 rfl) ?_
    refine r_sld X hw hX hbl hbA (by omega) hjL dL_cell_8 ?_
    refine lv_goto (tgt := 18) hx hb dL_cell_9 (by decide) ?_
    exact fin _ _
section RCELL
variable {p : Program} {l : Launch} {e : Env} {s : State} {m : MethodId} {args : Array Value} {below : List Frame} {meth : Method} {c : Code} {H : Heap} {locs : List Loc} {cells slots : Nat} {Q : State → Prop}
variable {D : va_G} {t : T3} {A : Nat → Prop} {ws : va_W} {pc : Nat} {ls : Array Slot} {b L : Nat} {xs : Nat → Int32}
set_option maxRecDepth 100000 in
theorem r_cell (X : Cx p s m meth c args cL_law 11 (some .boolean) RL wsL_law D t A) (hw : Wd D A s.heap ws H locs) (hX : va_X b L xs s s.heap) (hbl : b < s.heap.size) (hbA : ¬ A b) (hL : L ≤ 260) {lv : List (Nat × Value)} (hl : lv_has ls 11 lv) (hcs : cells ≤ 600130 ∧ slots ≤ 7301080) {k : Int32} (hk : ∃ j : Nat, j < 1000 ∧ k = nI j) (hdg : decode cL_law pc = .ok (.invokestatic 107, 3))
    (kk : ∀ (r : Int32) (H1 : Heap) (locs1 : List Loc), Wd D A s.heap ws H1 locs1 → W p l e room_1 s m args below meth c H1 locs1 cells slots Q (F0 m (pc + 3) ls [.int r])) : W p l e room_1 s m args below meth c H locs cells slots Q (F0 m pc ls [.int k, .ref b]) := by
  obtain ⟨j, hj, rfl⟩ := hk
  refine r_ci (S := Unit) (w1 := fun _ => ([] : va_W)) (wn := fun _ => ws) (post := fun _ _ => True) (wc := []) (wr := ws) (mc := 0) (ms := 0) X hw pm_n (fun _ => List.Perm.refl _) (va_runS (As := [Value.ref b, Value.int (nI j)]) (rest := []) X.1 (cS_cell l D t b L j xs hL hj H.size) (va_cwS 2 X.1.2.2.2.2 gL_law_L_cell rfl rfl rfl (by decide +kernel) ⟨Nat.le_of_ble_eq_true rfl, Nat.le_of_ble_eq_true rfl⟩) ⟨PcS.blind, fun U hU hW => ?_⟩ rfl rfl hl.1 rfl (lv_room (by decide)) hdg ⟨hcs.1, hcs.2⟩) (fun r u H1 locs1 _ hw1 => kk r H1 locs1 hw1)
  have hHb : H[b]? = s.heap[b]? := hw.2.2.2.1 b hbl hbA
  exact ⟨rfl, by rw [hU], X.2.2.2.1.warm hW, by rw [hU]; exact va_X.to hX hW.alike hHb, by rw [hU]; exact Nat.lt_of_lt_of_le hbl hw.2.2.1⟩
end RCELL

def bd_L_law_41 (Q : XV → IV → IV → IV → IV → Prop) (P : XV → IV → IV → IV → IV → Int32 → Prop) (K61 : XV → IV → IV → IV → IV → Prop) (vX : XV) (vI28 : IV) (vI48 : IV) (vI281 : IV) (vI481 : IV) (x6 : Int32) : Prop := (12 ≤ x6 → K61 vX vI28 vI48 vI281 vI481) ∧ (¬ 12 ≤ x6 → vp_in (4 + x6) 28 ∧ ∀ o_4 : Nat → Int32, o_4 = upd vI28 (Int32.toNatClampNeg (4 + x6)) (-1) → ∀ x6_5 : Int32, x6_5 = x6 + 1 → P vX o_4 vI48 vI281 vI481 x6_5)
def wp_L_law_41 (Q : XV → IV → IV → IV → IV → Prop) (K61 : XV → IV → IV → IV → IV → Prop) (vX : XV) (vI28 : IV) (vI48 : IV) (vI281 : IV) (vI481 : IV) (x6 : Int32) : Prop := ∀ P : XV → IV → IV → IV → IV → Int32 → Prop, (∀ (vX : XV) (vI28 : IV) (vI48 : IV) (vI281 : IV) (vI481 : IV) (x6 : Int32), bd_L_law_41 Q P K61 vX vI28 vI48 vI281 vI481 x6 → P vX vI28 vI48 vI281 vI481 x6) → P vX vI28 vI48 vI281 vI481 x6
set_option maxHeartbeats 4000000 in
set_option maxRecDepth 100000 in
theorem kb_L_law_41 {p : Program} {l : Launch} {e : Env} {s : State} {m : MethodId} {below : List Frame} {meth : Method} {c : Code} {args : Array Value} {D : va_G} {t : T3} {A : Nat → Prop} {Z : State → Prop} {b L i : Nat} {xs : Nat → Int32} (X : Cx p s m meth c args cL_law 11 (some .boolean) RL wsL_law D t A) (hL : L ≤ 260) (hi : i < 30) (hX : va_X b L xs s s.heap) (hbl : b < s.heap.size) (hbA : ¬ A b) (aX : XA) (aI28 : Nat) (aI48 : Nat) (aI281 : Nat) (aI481 : Nat) {Q : XV → IV → IV → IV → IV → Prop} {P : XV → IV → IV → IV → IV → Int32 → Prop} {K61 : XV → IV → IV → IV → IV → Prop} (hN : ∀ (vX : XV) (vI28 : IV) (vI48 : IV) (vI281 : IV) (vI481 : IV) (H : Heap) (locs : List Loc) (ls : Array Slot), Q vX vI28 vI48 vI281 vI481 → Wd D A s.heap (xW t aX vX ++ (i28W t aI28 vI28 ++ (i48W t aI48 vI48 ++ (i28W t aI281 vI281 ++ (i48W t aI481 vI481))))) H locs → lv_has ls 11 [(0, .ref b), (1, .ref (XA.o aX)), (2, .ref aI28), (3, .ref aI48), (4, .ref aI281), (5, .ref aI481)] → W p l e room_1 s m args below meth c H locs (200 + 20 * i + 20) (5000 + 500 * i + 500) Z (F0 m 82 ls [])) (hP : ∀ (vX : XV) (vI28 : IV) (vI48 : IV) (vI281 : IV) (vI481 : IV) (x6 : Int32) (H : Heap) (locs : List Loc) (ls : Array Slot), P vX vI28 vI48 vI281 vI481 x6 → Wd D A s.heap (xW t aX vX ++ (i28W t aI28 vI28 ++ (i48W t aI48 vI48 ++ (i28W t aI281 vI281 ++ (i48W t aI481 vI481))))) H locs → lv_has ls 11 [(0, .ref b), (1, .ref (XA.o aX)), (2, .ref aI28), (3, .ref aI48), (4, .ref aI281), (5, .ref aI481), (6, .int x6)] → W p l e room_1 s m args below meth c H locs (200 + 20 * i + 0) (5000 + 500 * i + 0) Z (F0 m 41 ls [])) (hK61 : ∀ (vX : XV) (vI28 : IV) (vI48 : IV) (vI281 : IV) (vI481 : IV) (H : Heap) (locs : List Loc) (ls : Array Slot), K61 vX vI28 vI48 vI281 vI481 → Wd D A s.heap (xW t aX vX ++ (i28W t aI28 vI28 ++ (i48W t aI48 vI48 ++ (i28W t aI281 vI281 ++ (i48W t aI481 vI481))))) H locs → lv_has ls 11 [(0, .ref b), (1, .ref (XA.o aX)), (2, .ref aI28), (3, .ref aI48), (4, .ref aI281), (5, .ref aI481)] → W p l e room_1 s m args below meth c H locs (200 + 20 * i + 0) (5000 + 500 * i + 0) Z (F0 m 61 ls [])) : ∀ (vX : XV) (vI28 : IV) (vI48 : IV) (vI281 : IV) (vI481 : IV) (x6 : Int32) (H : Heap) (locs : List Loc) (ls : Array Slot), bd_L_law_41 Q P K61 vX vI28 vI48 vI281 vI481 x6 → Wd D A s.heap (xW t aX vX ++ (i28W t aI28 vI28 ++ (i48W t aI48 vI48 ++ (i28W t aI281 vI281 ++ (i48W t aI481 vI481))))) H locs → lv_has ls 11 [(0, .ref b), (1, .ref (XA.o aX)), (2, .ref aI28), (3, .ref aI48), (4, .ref aI281), (5, .ref aI481), (6, .int x6)] → W p l e room_1 s m args below meth c H locs (200 + 20 * i + 0) (5000 + 500 * i + 0) Z (F0 m 41 ls []) := by
  intro vX vI28 vI48 vI281 vI481 x6 H locs ls h hw hl
  have hx := X.1.1
  have hb := X.1.2.1
  refine lv_iload hx hb dL_law_41 (lv_at hl 6 rfl) ?_
  refine lv_bipush (v := 12) hx hb dL_law_43 (by decide) ?_
  refine lv_icmp_ge (tgt := 61) hx hb dL_law_45 (by decide) (fun c_6 => ?_) (fun c_6 => ?_)
  · replace h := h.1 c_6
    exact hK61 _ _ _ _ _ _ _ _ h hw (lv_sub hl [0, 1, 2, 3, 4, 5] rfl)
  replace h := h.2 c_6
  refine lv_aload_n hx hb dL_law_48 rfl (lv_at hl 2 rfl) ?_
  refine lv_iconst (v := 4) hx hb dL_law_49 (by decide) ?_
  refine lv_iload hx hb dL_law_50 (lv_at hl 6 rfl) ?_
  refine lv_iadd hx hb dL_law_52 ?_
  refine lv_iconst (v := (-1)) hx hb dL_law_53 (by decide) ?_
  obtain ⟨hi_3, h⟩ := h
  obtain ⟨o_4, eo_4⟩ : ∃ z : Nat → Int32, z = upd vI28 (Int32.toNatClampNeg (4 + x6)) (-1) := ⟨_, rfl⟩
  replace h := h o_4 eo_4
  refine r_iast (ws' := (xW t aX vX ++ (i28W t aI28 o_4 ++ (i48W t aI48 vI48 ++ (i28W t aI281 vI281 ++ (i48W t aI481 vI481)))))) X hw 61 rfl hi_3 (by subst eo_4; rfl) dL_law_54 (fun H locs hw => ?_)
  obtain ⟨x6_5, ex6_5⟩ : ∃ z : Int32, z = x6 + 1 := ⟨_, rfl⟩
  replace h := h x6_5 ex6_5
  refine lv_iinc (v := x6_5) (lv' := [(6, .int x6_5), (0, .ref b), (1, .ref (XA.o aX)), (2, .ref aI28), (3, .ref aI48), (4, .ref aI281), (5, .ref aI481)]) hx hb dL_law_55 hl (k := 6) rfl (by rw [ex6_5]; rfl) (by decide) rfl (fun ls hl => ?_)
  refine lv_goto (tgt := 41) hx hb dL_law_58 (by decide) ?_
  exact hP _ _ _ _ _ _ _ _ _ h hw (lv_sub hl [1, 2, 3, 4, 5, 6, 0] rfl)
set_option maxHeartbeats 4000000 in
set_option maxRecDepth 100000 in
theorem k_L_law_41 {p : Program} {l : Launch} {e : Env} {s : State} {m : MethodId} {below : List Frame} {meth : Method} {c : Code} {args : Array Value} {D : va_G} {t : T3} {A : Nat → Prop} {Z : State → Prop} {b L i : Nat} {xs : Nat → Int32} (X : Cx p s m meth c args cL_law 11 (some .boolean) RL wsL_law D t A) (hL : L ≤ 260) (hi : i < 30) (hX : va_X b L xs s s.heap) (hbl : b < s.heap.size) (hbA : ¬ A b) (aX : XA) (aI28 : Nat) (aI48 : Nat) (aI281 : Nat) (aI481 : Nat) {Q : XV → IV → IV → IV → IV → Prop} {K61 : XV → IV → IV → IV → IV → Prop} (hN : ∀ (vX : XV) (vI28 : IV) (vI48 : IV) (vI281 : IV) (vI481 : IV) (H : Heap) (locs : List Loc) (ls : Array Slot), Q vX vI28 vI48 vI281 vI481 → Wd D A s.heap (xW t aX vX ++ (i28W t aI28 vI28 ++ (i48W t aI48 vI48 ++ (i28W t aI281 vI281 ++ (i48W t aI481 vI481))))) H locs → lv_has ls 11 [(0, .ref b), (1, .ref (XA.o aX)), (2, .ref aI28), (3, .ref aI48), (4, .ref aI281), (5, .ref aI481)] → W p l e room_1 s m args below meth c H locs (200 + 20 * i + 20) (5000 + 500 * i + 500) Z (F0 m 82 ls [])) (hK61 : ∀ (vX : XV) (vI28 : IV) (vI48 : IV) (vI281 : IV) (vI481 : IV) (H : Heap) (locs : List Loc) (ls : Array Slot), K61 vX vI28 vI48 vI281 vI481 → Wd D A s.heap (xW t aX vX ++ (i28W t aI28 vI28 ++ (i48W t aI48 vI48 ++ (i28W t aI281 vI281 ++ (i48W t aI481 vI481))))) H locs → lv_has ls 11 [(0, .ref b), (1, .ref (XA.o aX)), (2, .ref aI28), (3, .ref aI48), (4, .ref aI281), (5, .ref aI481)] → W p l e room_1 s m args below meth c H locs (200 + 20 * i + 0) (5000 + 500 * i + 0) Z (F0 m 61 ls [])) : ∀ (vX : XV) (vI28 : IV) (vI48 : IV) (vI281 : IV) (vI481 : IV) (x6 : Int32) (H : Heap) (locs : List Loc) (ls : Array Slot), wp_L_law_41 Q K61 vX vI28 vI48 vI281 vI481 x6 → Wd D A s.heap (xW t aX vX ++ (i28W t aI28 vI28 ++ (i48W t aI48 vI48 ++ (i28W t aI281 vI281 ++ (i48W t aI481 vI481))))) H locs → lv_has ls 11 [(0, .ref b), (1, .ref (XA.o aX)), (2, .ref aI28), (3, .ref aI48), (4, .ref aI281), (5, .ref aI481), (6, .int x6)] → W p l e room_1 s m args below meth c H locs (200 + 20 * i + 0) (5000 + 500 * i + 0) Z (F0 m 41 ls []) := by
  intro vX vI28 vI48 vI281 vI481 x6 H locs ls h hw hl
  have hx := X.1.1
  have hb := X.1.2.1
  refine h (fun (vX : XV) (vI28 : IV) (vI48 : IV) (vI281 : IV) (vI481 : IV) (x6 : Int32) => ∀ (H : Heap) (locs : List Loc) (ls : Array Slot), Wd D A s.heap (xW t aX vX ++ (i28W t aI28 vI28 ++ (i48W t aI48 vI48 ++ (i28W t aI281 vI281 ++ (i48W t aI481 vI481))))) H locs → lv_has ls 11 [(0, .ref b), (1, .ref (XA.o aX)), (2, .ref aI28), (3, .ref aI48), (4, .ref aI281), (5, .ref aI481), (6, .int x6)] → W p l e room_1 s m args below meth c H locs (200 + 20 * i + 0) (5000 + 500 * i + 0) Z (F0 m 41 ls [])) (fun vX vI28 vI48 vI281 vI481 x6 h H locs ls hw hl => ?_) H locs ls hw hl
  exact kb_L_law_41 X hL hi hX hbl hbA aX aI28 aI48 aI281 aI481 hN (fun vX vI28 vI48 vI281 vI481 x6 H locs ls q hw hl => q H locs ls hw hl) hK61 vX vI28 vI48 vI281 vI481 x6 _ _ _ h hw hl
def wp_L_lawA (Q : XV → IV → IV → IV → IV → Prop) (vX : XV) (vI28 : IV) (vI48 : IV) (vI281 : IV) (vI481 : IV) : Prop := ∀ o_1 : Nat → Int32, o_1 = upd vI28 0 2 → ∀ o_2 : Nat → Int32, o_2 = upd o_1 1 2 → wp_L_law_41 Q (fun (vX_7 : XV) (vI28_8 : IV) (vI48_9 : IV) (vI281_10 : IV) (vI481_11 : IV) => wp_L_told vX_7 vI28_8 vI48_9 0 (fun (r_15 : Int32) (vX_12 : XV) (vI28_13 : IV) (vI48_14 : IV) => (r_15 = 0 → False) ∧ (¬ r_15 = 0 → wp_X6_count vX_12 9 (fun (r_17 : Int32) (vX_16 : XV) => (r_17 = 0 → Q vX_16 vI28_13 vI48_14 vI281_10 vI481_11) ∧ (¬ r_17 = 0 → False)) (fun (_ : String) (_ : XV) => False)))) vX o_2 vI48 vI281 vI481 0
set_option maxHeartbeats 4000000 in
set_option maxRecDepth 100000 in
theorem k_L_lawA {p : Program} {l : Launch} {e : Env} {s : State} {m : MethodId} {below : List Frame} {meth : Method} {c : Code} {args : Array Value} {D : va_G} {t : T3} {A : Nat → Prop} {Z : State → Prop} {b L i : Nat} {xs : Nat → Int32} (X : Cx p s m meth c args cL_law 11 (some .boolean) RL wsL_law D t A) (hL : L ≤ 260) (hi : i < 30) (hX : va_X b L xs s s.heap) (hbl : b < s.heap.size) (hbA : ¬ A b) (aX : XA) (aI28 : Nat) (aI48 : Nat) (aI281 : Nat) (aI481 : Nat) {Q : XV → IV → IV → IV → IV → Prop} (hN : ∀ (vX : XV) (vI28 : IV) (vI48 : IV) (vI281 : IV) (vI481 : IV) (H : Heap) (locs : List Loc) (ls : Array Slot), Q vX vI28 vI48 vI281 vI481 → Wd D A s.heap (xW t aX vX ++ (i28W t aI28 vI28 ++ (i48W t aI48 vI48 ++ (i28W t aI281 vI281 ++ (i48W t aI481 vI481))))) H locs → lv_has ls 11 [(0, .ref b), (1, .ref (XA.o aX)), (2, .ref aI28), (3, .ref aI48), (4, .ref aI281), (5, .ref aI481)] → W p l e room_1 s m args below meth c H locs (200 + 20 * i + 20) (5000 + 500 * i + 500) Z (F0 m 82 ls [])) : ∀ (vX : XV) (vI28 : IV) (vI48 : IV) (vI281 : IV) (vI481 : IV) (H : Heap) (locs : List Loc) (ls : Array Slot), wp_L_lawA Q vX vI28 vI48 vI281 vI481 → Wd D A s.heap (xW t aX vX ++ (i28W t aI28 vI28 ++ (i48W t aI48 vI48 ++ (i28W t aI281 vI281 ++ (i48W t aI481 vI481))))) H locs → lv_has ls 11 [(0, .ref b), (1, .ref (XA.o aX)), (2, .ref aI28), (3, .ref aI48), (4, .ref aI281), (5, .ref aI481)] → W p l e room_1 s m args below meth c H locs (200 + 20 * i + 0) (5000 + 500 * i + 0) Z (F0 m 30 ls []) := by
  intro vX vI28 vI48 vI281 vI481 H locs ls h hw hl
  have hx := X.1.1
  have hb := X.1.2.1
  refine lv_aload_n hx hb dL_law_30 rfl (lv_at hl 2 rfl) ?_
  refine lv_iconst (v := 0) hx hb dL_law_31 (by decide) ?_
  refine lv_iconst (v := 2) hx hb dL_law_32 (by decide) ?_
  obtain ⟨o_1, eo_1⟩ : ∃ z : Nat → Int32, z = upd vI28 0 2 := ⟨_, rfl⟩
  replace h := h o_1 eo_1
  refine r_iast (ws' := (xW t aX vX ++ (i28W t aI28 o_1 ++ (i48W t aI48 vI48 ++ (i28W t aI281 vI281 ++ (i48W t aI481 vI481)))))) X hw 61 rfl (vpl rfl) (by subst eo_1; rfl) dL_law_33 (fun H locs hw => ?_)
  refine lv_aload_n hx hb dL_law_34 rfl (lv_at hl 2 rfl) ?_
  refine lv_iconst (v := 1) hx hb dL_law_35 (by decide) ?_
  refine lv_iconst (v := 2) hx hb dL_law_36 (by decide) ?_
  obtain ⟨o_2, eo_2⟩ : ∃ z : Nat → Int32, z = upd o_1 1 2 := ⟨_, rfl⟩
  replace h := h o_2 eo_2
  refine r_iast (ws' := (xW t aX vX ++ (i28W t aI28 o_2 ++ (i48W t aI48 vI48 ++ (i28W t aI281 vI281 ++ (i48W t aI481 vI481)))))) X hw 61 rfl (vpl rfl) (by subst eo_2; rfl) dL_law_37 (fun H locs hw => ?_)
  refine lv_iconst (v := 0) hx hb dL_law_38 (by decide) ?_
  refine lv_istore (lv' := [(6, .int 0), (0, .ref b), (1, .ref (XA.o aX)), (2, .ref aI28), (3, .ref aI48), (4, .ref aI281), (5, .ref aI481)]) hx hb dL_law_39 hl (by decide) rfl (fun ls hl => ?_)
  refine k_L_law_41 X hL hi hX hbl hbA aX aI28 aI48 aI281 aI481 hN (fun vX_7 vI28_8 vI48_9 vI281_10 vI481_11 H locs ls h hw hl => ?_) _ _ _ _ _ _ _ _ _ h hw (lv_sub hl [1, 2, 3, 4, 5, 6, 0] rfl)
  refine lv_aload_n hx hb dL_law_61 rfl (lv_at hl 1 rfl) ?_
  refine lv_iconst (v := 0) hx hb dL_law_62 (by decide) ?_
  refine lv_aload_n hx hb dL_law_63 rfl (lv_at hl 2 rfl) ?_
  refine lv_aload_n hx hb dL_law_64 rfl (lv_at hl 3 rfl) ?_
  refine r_ci X hw (pm_2 (pm_l pm_0) (pm_2 (pm_r (pm_l pm_0)) (pm_r (pm_r (pm_l pm_0))))) (wn := fun (u : XV × IV × IV) => (xW t aX u.1 ++ (i28W t aI28 u.2.1 ++ (i48W t aI48 u.2.2 ++ (i28W t aI281 vI281_10 ++ (i48W t aI481 vI481_11)))))) (fun u => (pm_2 (pm_l pm_0) (pm_2 (pm_r (pm_l pm_0)) (pm_r (pm_r (pm_l pm_0))))).symm) (r_runS X hw (c_L_told l D t aX aI28 aI48 vX_7 vI28_8 vI48_9 0 _ h) (pm_2 (pm_l pm_0) (pm_2 (pm_r (pm_l pm_0)) (pm_r (pm_r (pm_l pm_0))))) (va_cwS 4 X.1.2.2.2.2 gL_law_L_told rfl rfl rfl (by decide +kernel) ⟨Nat.le_of_ble_eq_true rfl, Nat.le_of_ble_eq_true rfl⟩) rfl hl rfl (Nat.le_of_ble_eq_true rfl) dL_law_65 ⟨by show 200 + 20 * i + 0 + 3 ≤ 600130; omega, by show 5000 + 500 * i + 0 + 39 ≤ 7301080; omega⟩) (fun r_15 u H locs h hw => ?_)
  obtain ⟨vX_12, vI28_13, vI48_14⟩ := u
  refine lv_if_eq (tgt := 80) hx hb dL_law_68 (by decide) (fun c_19 => ?_) (fun c_19 => ?_)
  · replace h := h.1 c_19
    refine lv_iconst (v := 0) hx hb dL_law_80 (by decide) ?_
    exact h.elim
  replace h := h.2 c_19
  refine lv_aload_n hx hb dL_law_71 rfl (lv_at hl 1 rfl) ?_
  refine lv_bipush (v := 9) hx hb dL_law_72 (by decide) ?_
  refine r_ci X hw (pm_l pm_0) (wn := fun (u : XV) => (xW t aX u ++ (i28W t aI28 vI28_13 ++ (i48W t aI48 vI48_14 ++ (i28W t aI281 vI281_10 ++ (i48W t aI481 vI481_11)))))) (fun u => (pm_l pm_0).symm) (r_runV X hw (c_X6_count l D t aX vX_12 9 _ h) (pm_l pm_0) (cwV 1 X.1.2.2.2.2 gL_law_X6_count rfl rfl rfl (by decide +kernel) ⟨Nat.le_of_ble_eq_true rfl, Nat.le_of_ble_eq_true rfl⟩) (ci := 6) rfl rfl rfl rfl hl rfl (Nat.le_of_ble_eq_true rfl) dL_law_74 ⟨by show 200 + 20 * i + 3 + 0 ≤ 600130; omega, by show 5000 + 500 * i + 39 + 0 ≤ 7301080; omega⟩) (fun r_17 u H locs h hw => ?_)
  obtain ⟨vX_16, rfl⟩ : ∃ z, z = u := ⟨_, rfl⟩
  refine lv_if_eq (tgt := 82) hx hb dL_law_77 (by decide) (fun c_18 => ?_) (fun c_18 => ?_)
  · replace h := h.1 c_18
    refine W.widen (k := 200 + 20 * i + 20) (n := 5000 + 500 * i + 500) (by omega) (by omega) ?_
    exact hN _ _ _ _ _ _ _ _ h hw hl
  replace h := h.2 c_18
  refine lv_iconst (v := 0) hx hb dL_law_80 (by decide) ?_
  exact h.elim
theorem k_L_law_110 : Cond.constant RL 110 (2147483647) ∈ wsL_law := List.mem_of_getElem? (i := 4) rfl
def wp_L_law_163 (P : XV → IV → IV → IV → IV → Int32 → Int32 → Int32 → Int32 → Int32 → Prop) (K169 : XV → IV → IV → IV → IV → Int32 → Int32 → Int32 → Int32 → Prop) (Q : XV → IV → IV → IV → IV → Int32 → Prop) (vX : XV) (vI28 : IV) (vI48 : IV) (vI281 : IV) (vI481 : IV) (x6 : Int32) (x7 : Int32) (x8 : Int32) (x9 : Int32) (x10 : Int32) : Prop := ∀ x10_13 : Int32, x10_13 = x10 + 1 → P vX vI28 vI48 vI281 vI481 x6 x7 x8 x9 x10_13
set_option maxHeartbeats 4000000 in
set_option maxRecDepth 100000 in
theorem k_L_law_163 {p : Program} {l : Launch} {e : Env} {s : State} {m : MethodId} {below : List Frame} {meth : Method} {c : Code} {args : Array Value} {D : va_G} {t : T3} {A : Nat → Prop} {Z : State → Prop} {b L i : Nat} {xs : Nat → Int32} (X : Cx p s m meth c args cL_law 11 (some .boolean) RL wsL_law D t A) (hL : L ≤ 260) (hi : i < 30) (hX : va_X b L xs s s.heap) (hbl : b < s.heap.size) (hbA : ¬ A b) (aX : XA) (aI28 : Nat) (aI48 : Nat) (aI281 : Nat) (aI481 : Nat) {P : XV → IV → IV → IV → IV → Int32 → Int32 → Int32 → Int32 → Int32 → Prop} {K169 : XV → IV → IV → IV → IV → Int32 → Int32 → Int32 → Int32 → Prop} {Q : XV → IV → IV → IV → IV → Int32 → Prop} (hN : ∀ (vX : XV) (vI28 : IV) (vI48 : IV) (vI281 : IV) (vI481 : IV) (x6 : Int32) (H : Heap) (locs : List Loc) (ls : Array Slot), Q vX vI28 vI48 vI281 vI481 x6 → Wd D A s.heap (xW t aX vX ++ (i28W t aI28 vI28 ++ (i48W t aI48 vI48 ++ (i28W t aI281 vI281 ++ (i48W t aI481 vI481))))) H locs → lv_has ls 11 [(0, .ref b), (1, .ref (XA.o aX)), (2, .ref aI28), (3, .ref aI48), (4, .ref aI281), (5, .ref aI481), (6, .int x6)] → W p l e room_1 s m args below meth c H locs (200 + 20 * i + 20) (5000 + 500 * i + 500) Z (F0 m 318 ls [])) (hP : ∀ (vX : XV) (vI28 : IV) (vI48 : IV) (vI281 : IV) (vI481 : IV) (x6 : Int32) (x7 : Int32) (x8 : Int32) (x9 : Int32) (x10 : Int32) (H : Heap) (locs : List Loc) (ls : Array Slot), P vX vI28 vI48 vI281 vI481 x6 x7 x8 x9 x10 → Wd D A s.heap (xW t aX vX ++ (i28W t aI28 vI28 ++ (i48W t aI48 vI48 ++ (i28W t aI281 vI281 ++ (i48W t aI481 vI481))))) H locs → lv_has ls 11 [(0, .ref b), (1, .ref (XA.o aX)), (2, .ref aI28), (3, .ref aI48), (4, .ref aI281), (5, .ref aI481), (6, .int x6), (7, .int x7), (8, .int x8), (9, .int x9), (10, .int x10)] → W p l e room_1 s m args below meth c H locs (200 + 20 * i + 0) (5000 + 500 * i + 0) Z (F0 m 131 ls [])) (hK169 : ∀ (vX : XV) (vI28 : IV) (vI48 : IV) (vI281 : IV) (vI481 : IV) (x6 : Int32) (x7 : Int32) (x8 : Int32) (x9 : Int32) (H : Heap) (locs : List Loc) (ls : Array Slot), K169 vX vI28 vI48 vI281 vI481 x6 x7 x8 x9 → Wd D A s.heap (xW t aX vX ++ (i28W t aI28 vI28 ++ (i48W t aI48 vI48 ++ (i28W t aI281 vI281 ++ (i48W t aI481 vI481))))) H locs → lv_has ls 11 [(0, .ref b), (1, .ref (XA.o aX)), (2, .ref aI28), (3, .ref aI48), (4, .ref aI281), (5, .ref aI481), (6, .int x6), (7, .int x7), (8, .int x8), (9, .int x9)] → W p l e room_1 s m args below meth c H locs (200 + 20 * i + 0) (5000 + 500 * i + 0) Z (F0 m 169 ls [])) : ∀ (vX : XV) (vI28 : IV) (vI48 : IV) (vI281 : IV) (vI481 : IV) (x6 : Int32) (x7 : Int32) (x8 : Int32) (x9 : Int32) (x10 : Int32) (H : Heap) (locs : List Loc) (ls : Array Slot), wp_L_law_163 P K169 Q vX vI28 vI48 vI281 vI481 x6 x7 x8 x9 x10 → Wd D A s.heap (xW t aX vX ++ (i28W t aI28 vI28 ++ (i48W t aI48 vI48 ++ (i28W t aI281 vI281 ++ (i48W t aI481 vI481))))) H locs → lv_has ls 11 [(0, .ref b), (1, .ref (XA.o aX)), (2, .ref aI28), (3, .ref aI48), (4, .ref aI281), (5, .ref aI481), (6, .int x6), (7, .int x7), (8, .int x8), (9, .int x9), (10, .int x10)] → W p l e room_1 s m args below meth c H locs (200 + 20 * i + 0) (5000 + 500 * i + 0) Z (F0 m 163 ls []) := by
  intro vX vI28 vI48 vI281 vI481 x6 x7 x8 x9 x10 H locs ls h hw hl
  have hx := X.1.1
  have hb := X.1.2.1
  obtain ⟨x10_13, ex10_13⟩ : ∃ z : Int32, z = x10 + 1 := ⟨_, rfl⟩
  replace h := h x10_13 ex10_13
  refine lv_iinc (v := x10_13) (lv' := [(10, .int x10_13), (0, .ref b), (1, .ref (XA.o aX)), (2, .ref aI28), (3, .ref aI48), (4, .ref aI281), (5, .ref aI481), (6, .int x6), (7, .int x7), (8, .int x8), (9, .int x9)]) hx hb dL_law_163 hl (k := 10) rfl (by rw [ex10_13]; rfl) (by decide) rfl (fun ls hl => ?_)
  refine lv_goto (tgt := 131) hx hb dL_law_166 (by decide) ?_
  exact hP _ _ _ _ _ _ _ _ _ _ _ _ _ h hw (lv_sub hl [1, 2, 3, 4, 5, 6, 7, 8, 9, 10, 0] rfl)
def bd_L_law_131 (Q : XV → IV → IV → IV → IV → Int32 → Prop) (P : XV → IV → IV → IV → IV → Int32 → Int32 → Int32 → Int32 → Int32 → Prop) (K169 : XV → IV → IV → IV → IV → Int32 → Int32 → Int32 → Int32 → Prop) (vX : XV) (vI28 : IV) (vI48 : IV) (vI281 : IV) (vI481 : IV) (x6 : Int32) (x7 : Int32) (x8 : Int32) (x9 : Int32) (x10 : Int32) : Prop := (48 ≤ x10 → K169 vX vI28 vI48 vI281 vI481 x6 x7 x8 x9) ∧ (¬ 48 ≤ x10 → vp_in x10 48 ∧ ∀ f_10 : Int32, f_10 = (vI48 (Int32.toNatClampNeg x10)) → vp_in x10 48 ∧ ∀ o_12 : Nat → Int32, o_12 = upd vI481 (Int32.toNatClampNeg x10) f_10 → (28 ≤ x10 → wp_L_law_163  P K169 Q vX vI28 vI48 vI281 o_12 x6 x7 x8 x9 x10) ∧ (¬ 28 ≤ x10 → vp_in x10 28 ∧ ∀ f_15 : Int32, f_15 = (vI28 (Int32.toNatClampNeg x10)) → vp_in x10 28 ∧ ∀ o_17 : Nat → Int32, o_17 = upd vI281 (Int32.toNatClampNeg x10) f_15 → wp_L_law_163  P K169 Q vX vI28 vI48 o_17 o_12 x6 x7 x8 x9 x10))
def wp_L_law_131 (Q : XV → IV → IV → IV → IV → Int32 → Prop) (K169 : XV → IV → IV → IV → IV → Int32 → Int32 → Int32 → Int32 → Prop) (vX : XV) (vI28 : IV) (vI48 : IV) (vI281 : IV) (vI481 : IV) (x6 : Int32) (x7 : Int32) (x8 : Int32) (x9 : Int32) (x10 : Int32) : Prop := ∀ P : XV → IV → IV → IV → IV → Int32 → Int32 → Int32 → Int32 → Int32 → Prop, (∀ (vX : XV) (vI28 : IV) (vI48 : IV) (vI281 : IV) (vI481 : IV) (x6 : Int32) (x7 : Int32) (x8 : Int32) (x9 : Int32) (x10 : Int32), bd_L_law_131 Q P K169 vX vI28 vI48 vI281 vI481 x6 x7 x8 x9 x10 → P vX vI28 vI48 vI281 vI481 x6 x7 x8 x9 x10) → P vX vI28 vI48 vI281 vI481 x6 x7 x8 x9 x10
set_option maxHeartbeats 4000000 in
set_option maxRecDepth 100000 in
theorem kb_L_law_131 {p : Program} {l : Launch} {e : Env} {s : State} {m : MethodId} {below : List Frame} {meth : Method} {c : Code} {args : Array Value} {D : va_G} {t : T3} {A : Nat → Prop} {Z : State → Prop} {b L i : Nat} {xs : Nat → Int32} (X : Cx p s m meth c args cL_law 11 (some .boolean) RL wsL_law D t A) (hL : L ≤ 260) (hi : i < 30) (hX : va_X b L xs s s.heap) (hbl : b < s.heap.size) (hbA : ¬ A b) (aX : XA) (aI28 : Nat) (aI48 : Nat) (aI281 : Nat) (aI481 : Nat) {Q : XV → IV → IV → IV → IV → Int32 → Prop} {P : XV → IV → IV → IV → IV → Int32 → Int32 → Int32 → Int32 → Int32 → Prop} {K169 : XV → IV → IV → IV → IV → Int32 → Int32 → Int32 → Int32 → Prop} (hN : ∀ (vX : XV) (vI28 : IV) (vI48 : IV) (vI281 : IV) (vI481 : IV) (x6 : Int32) (H : Heap) (locs : List Loc) (ls : Array Slot), Q vX vI28 vI48 vI281 vI481 x6 → Wd D A s.heap (xW t aX vX ++ (i28W t aI28 vI28 ++ (i48W t aI48 vI48 ++ (i28W t aI281 vI281 ++ (i48W t aI481 vI481))))) H locs → lv_has ls 11 [(0, .ref b), (1, .ref (XA.o aX)), (2, .ref aI28), (3, .ref aI48), (4, .ref aI281), (5, .ref aI481), (6, .int x6)] → W p l e room_1 s m args below meth c H locs (200 + 20 * i + 20) (5000 + 500 * i + 500) Z (F0 m 318 ls [])) (hP : ∀ (vX : XV) (vI28 : IV) (vI48 : IV) (vI281 : IV) (vI481 : IV) (x6 : Int32) (x7 : Int32) (x8 : Int32) (x9 : Int32) (x10 : Int32) (H : Heap) (locs : List Loc) (ls : Array Slot), P vX vI28 vI48 vI281 vI481 x6 x7 x8 x9 x10 → Wd D A s.heap (xW t aX vX ++ (i28W t aI28 vI28 ++ (i48W t aI48 vI48 ++ (i28W t aI281 vI281 ++ (i48W t aI481 vI481))))) H locs → lv_has ls 11 [(0, .ref b), (1, .ref (XA.o aX)), (2, .ref aI28), (3, .ref aI48), (4, .ref aI281), (5, .ref aI481), (6, .int x6), (7, .int x7), (8, .int x8), (9, .int x9), (10, .int x10)] → W p l e room_1 s m args below meth c H locs (200 + 20 * i + 0) (5000 + 500 * i + 0) Z (F0 m 131 ls [])) (hK169 : ∀ (vX : XV) (vI28 : IV) (vI48 : IV) (vI281 : IV) (vI481 : IV) (x6 : Int32) (x7 : Int32) (x8 : Int32) (x9 : Int32) (H : Heap) (locs : List Loc) (ls : Array Slot), K169 vX vI28 vI48 vI281 vI481 x6 x7 x8 x9 → Wd D A s.heap (xW t aX vX ++ (i28W t aI28 vI28 ++ (i48W t aI48 vI48 ++ (i28W t aI281 vI281 ++ (i48W t aI481 vI481))))) H locs → lv_has ls 11 [(0, .ref b), (1, .ref (XA.o aX)), (2, .ref aI28), (3, .ref aI48), (4, .ref aI281), (5, .ref aI481), (6, .int x6), (7, .int x7), (8, .int x8), (9, .int x9)] → W p l e room_1 s m args below meth c H locs (200 + 20 * i + 0) (5000 + 500 * i + 0) Z (F0 m 169 ls [])) : ∀ (vX : XV) (vI28 : IV) (vI48 : IV) (vI281 : IV) (vI481 : IV) (x6 : Int32) (x7 : Int32) (x8 : Int32) (x9 : Int32) (x10 : Int32) (H : Heap) (locs : List Loc) (ls : Array Slot), bd_L_law_131 Q P K169 vX vI28 vI48 vI281 vI481 x6 x7 x8 x9 x10 → Wd D A s.heap (xW t aX vX ++ (i28W t aI28 vI28 ++ (i48W t aI48 vI48 ++ (i28W t aI281 vI281 ++ (i48W t aI481 vI481))))) H locs → lv_has ls 11 [(0, .ref b), (1, .ref (XA.o aX)), (2, .ref aI28), (3, .ref aI48), (4, .ref aI281), (5, .ref aI481), (6, .int x6), (7, .int x7), (8, .int x8), (9, .int x9), (10, .int x10)] → W p l e room_1 s m args below meth c H locs (200 + 20 * i + 0) (5000 + 500 * i + 0) Z (F0 m 131 ls []) := by
  intro vX vI28 vI48 vI281 vI481 x6 x7 x8 x9 x10 H locs ls h hw hl
  have hx := X.1.1
  have hb := X.1.2.1
  refine lv_iload hx hb dL_law_131 (lv_at hl 10 rfl) ?_
  refine lv_bipush (v := 48) hx hb dL_law_133 (by decide) ?_
  refine lv_icmp_ge (tgt := 169) hx hb dL_law_135 (by decide) (fun c_19 => ?_) (fun c_19 => ?_)
  · replace h := h.1 c_19
    exact hK169 _ _ _ _ _ _ _ _ _ _ _ _ h hw (lv_sub hl [0, 1, 2, 3, 4, 5, 6, 7, 8, 9] rfl)
  replace h := h.2 c_19
  refine lv_aload hx hb dL_law_138 (lv_at hl 5 rfl) ?_
  refine lv_iload hx hb dL_law_140 (lv_at hl 10 rfl) ?_
  refine lv_aload_n hx hb dL_law_142 rfl (lv_at hl 3 rfl) ?_
  refine lv_iload hx hb dL_law_143 (lv_at hl 10 rfl) ?_
  obtain ⟨hi_9, h⟩ := h
  refine r_iald (v := (vI48 (Int32.toNatClampNeg x10))) X hw 62 rfl hi_9 rfl dL_law_145 ?_
  refine lv_topi (fun f_10 ef_10 => ?_)
  replace h := h f_10 ef_10
  obtain ⟨hi_11, h⟩ := h
  obtain ⟨o_12, eo_12⟩ : ∃ z : Nat → Int32, z = upd vI481 (Int32.toNatClampNeg x10) f_10 := ⟨_, rfl⟩
  replace h := h o_12 eo_12
  refine r_iast (ws' := (xW t aX vX ++ (i28W t aI28 vI28 ++ (i48W t aI48 vI48 ++ (i28W t aI281 vI281 ++ (i48W t aI481 o_12)))))) X hw 64 rfl hi_11 (by subst eo_12; rfl) dL_law_146 (fun H locs hw => ?_)
  refine lv_iload hx hb dL_law_147 (lv_at hl 10 rfl) ?_
  refine lv_bipush (v := 28) hx hb dL_law_149 (by decide) ?_
  refine lv_icmp_ge (tgt := 163) hx hb dL_law_151 (by decide) (fun c_18 => ?_) (fun c_18 => ?_)
  · replace h := h.1 c_18
    exact k_L_law_163 X hL hi hX hbl hbA aX aI28 aI48 aI281 aI481 hN hP hK169 _ _ _ _ _ _ _ _ _ _ _ _ _ h hw hl
  replace h := h.2 c_18
  refine lv_aload hx hb dL_law_154 (lv_at hl 4 rfl) ?_
  refine lv_iload hx hb dL_law_156 (lv_at hl 10 rfl) ?_
  refine lv_aload_n hx hb dL_law_158 rfl (lv_at hl 2 rfl) ?_
  refine lv_iload hx hb dL_law_159 (lv_at hl 10 rfl) ?_
  obtain ⟨hi_14, h⟩ := h
  refine r_iald (v := (vI28 (Int32.toNatClampNeg x10))) X hw 61 rfl hi_14 rfl dL_law_161 ?_
  refine lv_topi (fun f_15 ef_15 => ?_)
  replace h := h f_15 ef_15
  obtain ⟨hi_16, h⟩ := h
  obtain ⟨o_17, eo_17⟩ : ∃ z : Nat → Int32, z = upd vI281 (Int32.toNatClampNeg x10) f_15 := ⟨_, rfl⟩
  replace h := h o_17 eo_17
  refine r_iast (ws' := (xW t aX vX ++ (i28W t aI28 vI28 ++ (i48W t aI48 vI48 ++ (i28W t aI281 o_17 ++ (i48W t aI481 o_12)))))) X hw 63 rfl hi_16 (by subst eo_17; rfl) dL_law_162 (fun H locs hw => ?_)
  exact k_L_law_163 X hL hi hX hbl hbA aX aI28 aI48 aI281 aI481 hN hP hK169 _ _ _ _ _ _ _ _ _ _ _ _ _ h hw hl
set_option maxHeartbeats 4000000 in
set_option maxRecDepth 100000 in
theorem k_L_law_131 {p : Program} {l : Launch} {e : Env} {s : State} {m : MethodId} {below : List Frame} {meth : Method} {c : Code} {args : Array Value} {D : va_G} {t : T3} {A : Nat → Prop} {Z : State → Prop} {b L i : Nat} {xs : Nat → Int32} (X : Cx p s m meth c args cL_law 11 (some .boolean) RL wsL_law D t A) (hL : L ≤ 260) (hi : i < 30) (hX : va_X b L xs s s.heap) (hbl : b < s.heap.size) (hbA : ¬ A b) (aX : XA) (aI28 : Nat) (aI48 : Nat) (aI281 : Nat) (aI481 : Nat) {Q : XV → IV → IV → IV → IV → Int32 → Prop} {K169 : XV → IV → IV → IV → IV → Int32 → Int32 → Int32 → Int32 → Prop} (hN : ∀ (vX : XV) (vI28 : IV) (vI48 : IV) (vI281 : IV) (vI481 : IV) (x6 : Int32) (H : Heap) (locs : List Loc) (ls : Array Slot), Q vX vI28 vI48 vI281 vI481 x6 → Wd D A s.heap (xW t aX vX ++ (i28W t aI28 vI28 ++ (i48W t aI48 vI48 ++ (i28W t aI281 vI281 ++ (i48W t aI481 vI481))))) H locs → lv_has ls 11 [(0, .ref b), (1, .ref (XA.o aX)), (2, .ref aI28), (3, .ref aI48), (4, .ref aI281), (5, .ref aI481), (6, .int x6)] → W p l e room_1 s m args below meth c H locs (200 + 20 * i + 20) (5000 + 500 * i + 500) Z (F0 m 318 ls [])) (hK169 : ∀ (vX : XV) (vI28 : IV) (vI48 : IV) (vI281 : IV) (vI481 : IV) (x6 : Int32) (x7 : Int32) (x8 : Int32) (x9 : Int32) (H : Heap) (locs : List Loc) (ls : Array Slot), K169 vX vI28 vI48 vI281 vI481 x6 x7 x8 x9 → Wd D A s.heap (xW t aX vX ++ (i28W t aI28 vI28 ++ (i48W t aI48 vI48 ++ (i28W t aI281 vI281 ++ (i48W t aI481 vI481))))) H locs → lv_has ls 11 [(0, .ref b), (1, .ref (XA.o aX)), (2, .ref aI28), (3, .ref aI48), (4, .ref aI281), (5, .ref aI481), (6, .int x6), (7, .int x7), (8, .int x8), (9, .int x9)] → W p l e room_1 s m args below meth c H locs (200 + 20 * i + 0) (5000 + 500 * i + 0) Z (F0 m 169 ls [])) : ∀ (vX : XV) (vI28 : IV) (vI48 : IV) (vI281 : IV) (vI481 : IV) (x6 : Int32) (x7 : Int32) (x8 : Int32) (x9 : Int32) (x10 : Int32) (H : Heap) (locs : List Loc) (ls : Array Slot), wp_L_law_131 Q K169 vX vI28 vI48 vI281 vI481 x6 x7 x8 x9 x10 → Wd D A s.heap (xW t aX vX ++ (i28W t aI28 vI28 ++ (i48W t aI48 vI48 ++ (i28W t aI281 vI281 ++ (i48W t aI481 vI481))))) H locs → lv_has ls 11 [(0, .ref b), (1, .ref (XA.o aX)), (2, .ref aI28), (3, .ref aI48), (4, .ref aI281), (5, .ref aI481), (6, .int x6), (7, .int x7), (8, .int x8), (9, .int x9), (10, .int x10)] → W p l e room_1 s m args below meth c H locs (200 + 20 * i + 0) (5000 + 500 * i + 0) Z (F0 m 131 ls []) := by
  intro vX vI28 vI48 vI281 vI481 x6 x7 x8 x9 x10 H locs ls h hw hl
  have hx := X.1.1
  have hb := X.1.2.1
  refine h (fun (vX : XV) (vI28 : IV) (vI48 : IV) (vI281 : IV) (vI481 : IV) (x6 : Int32) (x7 : Int32) (x8 : Int32) (x9 : Int32) (x10 : Int32) => ∀ (H : Heap) (locs : List Loc) (ls : Array Slot), Wd D A s.heap (xW t aX vX ++ (i28W t aI28 vI28 ++ (i48W t aI48 vI48 ++ (i28W t aI281 vI281 ++ (i48W t aI481 vI481))))) H locs → lv_has ls 11 [(0, .ref b), (1, .ref (XA.o aX)), (2, .ref aI28), (3, .ref aI48), (4, .ref aI281), (5, .ref aI481), (6, .int x6), (7, .int x7), (8, .int x8), (9, .int x9), (10, .int x10)] → W p l e room_1 s m args below meth c H locs (200 + 20 * i + 0) (5000 + 500 * i + 0) Z (F0 m 131 ls [])) (fun vX vI28 vI48 vI281 vI481 x6 x7 x8 x9 x10 h H locs ls hw hl => ?_) H locs ls hw hl
  exact kb_L_law_131 X hL hi hX hbl hbA aX aI28 aI48 aI281 aI481 hN (fun vX vI28 vI48 vI281 vI481 x6 x7 x8 x9 x10 H locs ls q hw hl => q H locs ls hw hl) hK169 vX vI28 vI48 vI281 vI481 x6 x7 x8 x9 x10 _ _ _ h hw hl
def wp_L_law_297 (P : XV → IV → IV → IV → IV → Int32 → Int32 → Int32 → Prop) (K303 : XV → IV → IV → IV → IV → Int32 → Int32 → Prop) (Q : XV → IV → IV → IV → IV → Int32 → Prop) (vX : XV) (vI28 : IV) (vI48 : IV) (vI281 : IV) (vI481 : IV) (x6 : Int32) (x8 : Int32) (x10 : Int32) : Prop := ∀ x10_47 : Int32, x10_47 = x10 + 1 → P vX vI28 vI48 vI281 vI481 x6 x8 x10_47
set_option maxHeartbeats 4000000 in
set_option maxRecDepth 100000 in
theorem k_L_law_297 {p : Program} {l : Launch} {e : Env} {s : State} {m : MethodId} {below : List Frame} {meth : Method} {c : Code} {args : Array Value} {D : va_G} {t : T3} {A : Nat → Prop} {Z : State → Prop} {b L i : Nat} {xs : Nat → Int32} (X : Cx p s m meth c args cL_law 11 (some .boolean) RL wsL_law D t A) (hL : L ≤ 260) (hi : i < 30) (hX : va_X b L xs s s.heap) (hbl : b < s.heap.size) (hbA : ¬ A b) (aX : XA) (aI28 : Nat) (aI48 : Nat) (aI281 : Nat) (aI481 : Nat) {P : XV → IV → IV → IV → IV → Int32 → Int32 → Int32 → Prop} {K303 : XV → IV → IV → IV → IV → Int32 → Int32 → Prop} {Q : XV → IV → IV → IV → IV → Int32 → Prop} (hN : ∀ (vX : XV) (vI28 : IV) (vI48 : IV) (vI281 : IV) (vI481 : IV) (x6 : Int32) (H : Heap) (locs : List Loc) (ls : Array Slot), Q vX vI28 vI48 vI281 vI481 x6 → Wd D A s.heap (xW t aX vX ++ (i28W t aI28 vI28 ++ (i48W t aI48 vI48 ++ (i28W t aI281 vI281 ++ (i48W t aI481 vI481))))) H locs → lv_has ls 11 [(0, .ref b), (1, .ref (XA.o aX)), (2, .ref aI28), (3, .ref aI48), (4, .ref aI281), (5, .ref aI481), (6, .int x6)] → W p l e room_1 s m args below meth c H locs (200 + 20 * i + 20) (5000 + 500 * i + 500) Z (F0 m 318 ls [])) (hP : ∀ (vX : XV) (vI28 : IV) (vI48 : IV) (vI281 : IV) (vI481 : IV) (x6 : Int32) (x8 : Int32) (x10 : Int32) (H : Heap) (locs : List Loc) (ls : Array Slot), P vX vI28 vI48 vI281 vI481 x6 x8 x10 → Wd D A s.heap (xW t aX vX ++ (i28W t aI28 vI28 ++ (i48W t aI48 vI48 ++ (i28W t aI281 vI281 ++ (i48W t aI481 vI481))))) H locs → lv_has ls 11 [(0, .ref b), (1, .ref (XA.o aX)), (2, .ref aI28), (3, .ref aI48), (4, .ref aI281), (5, .ref aI481), (6, .int x6), (8, .int x8), (10, .int x10)] → W p l e room_1 s m args below meth c H locs (200 + 20 * i + 6) (5000 + 500 * i + 78) Z (F0 m 265 ls [])) (hK303 : ∀ (vX : XV) (vI28 : IV) (vI48 : IV) (vI281 : IV) (vI481 : IV) (x6 : Int32) (x8 : Int32) (H : Heap) (locs : List Loc) (ls : Array Slot), K303 vX vI28 vI48 vI281 vI481 x6 x8 → Wd D A s.heap (xW t aX vX ++ (i28W t aI28 vI28 ++ (i48W t aI48 vI48 ++ (i28W t aI281 vI281 ++ (i48W t aI481 vI481))))) H locs → lv_has ls 11 [(0, .ref b), (1, .ref (XA.o aX)), (2, .ref aI28), (3, .ref aI48), (4, .ref aI281), (5, .ref aI481), (6, .int x6), (8, .int x8)] → W p l e room_1 s m args below meth c H locs (200 + 20 * i + 6) (5000 + 500 * i + 78) Z (F0 m 303 ls [])) : ∀ (vX : XV) (vI28 : IV) (vI48 : IV) (vI281 : IV) (vI481 : IV) (x6 : Int32) (x8 : Int32) (x10 : Int32) (H : Heap) (locs : List Loc) (ls : Array Slot), wp_L_law_297 P K303 Q vX vI28 vI48 vI281 vI481 x6 x8 x10 → Wd D A s.heap (xW t aX vX ++ (i28W t aI28 vI28 ++ (i48W t aI48 vI48 ++ (i28W t aI281 vI281 ++ (i48W t aI481 vI481))))) H locs → lv_has ls 11 [(0, .ref b), (1, .ref (XA.o aX)), (2, .ref aI28), (3, .ref aI48), (4, .ref aI281), (5, .ref aI481), (6, .int x6), (8, .int x8), (10, .int x10)] → W p l e room_1 s m args below meth c H locs (200 + 20 * i + 6) (5000 + 500 * i + 78) Z (F0 m 297 ls []) := by
  intro vX vI28 vI48 vI281 vI481 x6 x8 x10 H locs ls h hw hl
  have hx := X.1.1
  have hb := X.1.2.1
  obtain ⟨x10_47, ex10_47⟩ : ∃ z : Int32, z = x10 + 1 := ⟨_, rfl⟩
  replace h := h x10_47 ex10_47
  refine lv_iinc (v := x10_47) (lv' := [(10, .int x10_47), (0, .ref b), (1, .ref (XA.o aX)), (2, .ref aI28), (3, .ref aI48), (4, .ref aI281), (5, .ref aI481), (6, .int x6), (8, .int x8)]) hx hb dL_law_297 hl (k := 8) rfl (by rw [ex10_47]; rfl) (by decide) rfl (fun ls hl => ?_)
  refine lv_goto (tgt := 265) hx hb dL_law_300 (by decide) ?_
  exact hP _ _ _ _ _ _ _ _ _ _ _ h hw (lv_sub hl [1, 2, 3, 4, 5, 6, 7, 8, 0] rfl)
def bd_L_law_265 (Q : XV → IV → IV → IV → IV → Int32 → Prop) (P : XV → IV → IV → IV → IV → Int32 → Int32 → Int32 → Prop) (K303 : XV → IV → IV → IV → IV → Int32 → Int32 → Prop) (vX : XV) (vI28 : IV) (vI48 : IV) (vI281 : IV) (vI481 : IV) (x6 : Int32) (x8 : Int32) (x10 : Int32) : Prop := (48 ≤ x10 → K303 vX vI28 vI48 vI281 vI481 x6 x8) ∧ (¬ 48 ≤ x10 → vp_in x10 48 ∧ ∀ f_44 : Int32, f_44 = (vI481 (Int32.toNatClampNeg x10)) → vp_in x10 48 ∧ ∀ o_46 : Nat → Int32, o_46 = upd vI48 (Int32.toNatClampNeg x10) f_44 → (28 ≤ x10 → wp_L_law_297  P K303 Q vX vI28 o_46 vI281 vI481 x6 x8 x10) ∧ (¬ 28 ≤ x10 → vp_in x10 28 ∧ ∀ f_49 : Int32, f_49 = (vI281 (Int32.toNatClampNeg x10)) → vp_in x10 28 ∧ ∀ o_51 : Nat → Int32, o_51 = upd vI28 (Int32.toNatClampNeg x10) f_49 → wp_L_law_297  P K303 Q vX o_51 o_46 vI281 vI481 x6 x8 x10))
def wp_L_law_265 (Q : XV → IV → IV → IV → IV → Int32 → Prop) (K303 : XV → IV → IV → IV → IV → Int32 → Int32 → Prop) (vX : XV) (vI28 : IV) (vI48 : IV) (vI281 : IV) (vI481 : IV) (x6 : Int32) (x8 : Int32) (x10 : Int32) : Prop := ∀ P : XV → IV → IV → IV → IV → Int32 → Int32 → Int32 → Prop, (∀ (vX : XV) (vI28 : IV) (vI48 : IV) (vI281 : IV) (vI481 : IV) (x6 : Int32) (x8 : Int32) (x10 : Int32), bd_L_law_265 Q P K303 vX vI28 vI48 vI281 vI481 x6 x8 x10 → P vX vI28 vI48 vI281 vI481 x6 x8 x10) → P vX vI28 vI48 vI281 vI481 x6 x8 x10
set_option maxHeartbeats 4000000 in
set_option maxRecDepth 100000 in
theorem kb_L_law_265 {p : Program} {l : Launch} {e : Env} {s : State} {m : MethodId} {below : List Frame} {meth : Method} {c : Code} {args : Array Value} {D : va_G} {t : T3} {A : Nat → Prop} {Z : State → Prop} {b L i : Nat} {xs : Nat → Int32} (X : Cx p s m meth c args cL_law 11 (some .boolean) RL wsL_law D t A) (hL : L ≤ 260) (hi : i < 30) (hX : va_X b L xs s s.heap) (hbl : b < s.heap.size) (hbA : ¬ A b) (aX : XA) (aI28 : Nat) (aI48 : Nat) (aI281 : Nat) (aI481 : Nat) {Q : XV → IV → IV → IV → IV → Int32 → Prop} {P : XV → IV → IV → IV → IV → Int32 → Int32 → Int32 → Prop} {K303 : XV → IV → IV → IV → IV → Int32 → Int32 → Prop} (hN : ∀ (vX : XV) (vI28 : IV) (vI48 : IV) (vI281 : IV) (vI481 : IV) (x6 : Int32) (H : Heap) (locs : List Loc) (ls : Array Slot), Q vX vI28 vI48 vI281 vI481 x6 → Wd D A s.heap (xW t aX vX ++ (i28W t aI28 vI28 ++ (i48W t aI48 vI48 ++ (i28W t aI281 vI281 ++ (i48W t aI481 vI481))))) H locs → lv_has ls 11 [(0, .ref b), (1, .ref (XA.o aX)), (2, .ref aI28), (3, .ref aI48), (4, .ref aI281), (5, .ref aI481), (6, .int x6)] → W p l e room_1 s m args below meth c H locs (200 + 20 * i + 20) (5000 + 500 * i + 500) Z (F0 m 318 ls [])) (hP : ∀ (vX : XV) (vI28 : IV) (vI48 : IV) (vI281 : IV) (vI481 : IV) (x6 : Int32) (x8 : Int32) (x10 : Int32) (H : Heap) (locs : List Loc) (ls : Array Slot), P vX vI28 vI48 vI281 vI481 x6 x8 x10 → Wd D A s.heap (xW t aX vX ++ (i28W t aI28 vI28 ++ (i48W t aI48 vI48 ++ (i28W t aI281 vI281 ++ (i48W t aI481 vI481))))) H locs → lv_has ls 11 [(0, .ref b), (1, .ref (XA.o aX)), (2, .ref aI28), (3, .ref aI48), (4, .ref aI281), (5, .ref aI481), (6, .int x6), (8, .int x8), (10, .int x10)] → W p l e room_1 s m args below meth c H locs (200 + 20 * i + 6) (5000 + 500 * i + 78) Z (F0 m 265 ls [])) (hK303 : ∀ (vX : XV) (vI28 : IV) (vI48 : IV) (vI281 : IV) (vI481 : IV) (x6 : Int32) (x8 : Int32) (H : Heap) (locs : List Loc) (ls : Array Slot), K303 vX vI28 vI48 vI281 vI481 x6 x8 → Wd D A s.heap (xW t aX vX ++ (i28W t aI28 vI28 ++ (i48W t aI48 vI48 ++ (i28W t aI281 vI281 ++ (i48W t aI481 vI481))))) H locs → lv_has ls 11 [(0, .ref b), (1, .ref (XA.o aX)), (2, .ref aI28), (3, .ref aI48), (4, .ref aI281), (5, .ref aI481), (6, .int x6), (8, .int x8)] → W p l e room_1 s m args below meth c H locs (200 + 20 * i + 6) (5000 + 500 * i + 78) Z (F0 m 303 ls [])) : ∀ (vX : XV) (vI28 : IV) (vI48 : IV) (vI281 : IV) (vI481 : IV) (x6 : Int32) (x8 : Int32) (x10 : Int32) (H : Heap) (locs : List Loc) (ls : Array Slot), bd_L_law_265 Q P K303 vX vI28 vI48 vI281 vI481 x6 x8 x10 → Wd D A s.heap (xW t aX vX ++ (i28W t aI28 vI28 ++ (i48W t aI48 vI48 ++ (i28W t aI281 vI281 ++ (i48W t aI481 vI481))))) H locs → lv_has ls 11 [(0, .ref b), (1, .ref (XA.o aX)), (2, .ref aI28), (3, .ref aI48), (4, .ref aI281), (5, .ref aI481), (6, .int x6), (8, .int x8), (10, .int x10)] → W p l e room_1 s m args below meth c H locs (200 + 20 * i + 6) (5000 + 500 * i + 78) Z (F0 m 265 ls []) := by
  intro vX vI28 vI48 vI281 vI481 x6 x8 x10 H locs ls h hw hl
  have hx := X.1.1
  have hb := X.1.2.1
  refine lv_iload hx hb dL_law_265 (lv_at hl 8 rfl) ?_
  refine lv_bipush (v := 48) hx hb dL_law_267 (by decide) ?_
  refine lv_icmp_ge (tgt := 303) hx hb dL_law_269 (by decide) (fun c_53 => ?_) (fun c_53 => ?_)
  · replace h := h.1 c_53
    exact hK303 _ _ _ _ _ _ _ _ _ _ h hw (lv_sub hl [0, 1, 2, 3, 4, 5, 6, 7] rfl)
  replace h := h.2 c_53
  refine lv_aload_n hx hb dL_law_272 rfl (lv_at hl 3 rfl) ?_
  refine lv_iload hx hb dL_law_273 (lv_at hl 8 rfl) ?_
  refine lv_aload hx hb dL_law_275 (lv_at hl 5 rfl) ?_
  refine lv_iload hx hb dL_law_277 (lv_at hl 8 rfl) ?_
  obtain ⟨hi_43, h⟩ := h
  refine r_iald (v := (vI481 (Int32.toNatClampNeg x10))) X hw 64 rfl hi_43 rfl dL_law_279 ?_
  refine lv_topi (fun f_44 ef_44 => ?_)
  replace h := h f_44 ef_44
  obtain ⟨hi_45, h⟩ := h
  obtain ⟨o_46, eo_46⟩ : ∃ z : Nat → Int32, z = upd vI48 (Int32.toNatClampNeg x10) f_44 := ⟨_, rfl⟩
  replace h := h o_46 eo_46
  refine r_iast (ws' := (xW t aX vX ++ (i28W t aI28 vI28 ++ (i48W t aI48 o_46 ++ (i28W t aI281 vI281 ++ (i48W t aI481 vI481)))))) X hw 62 rfl hi_45 (by subst eo_46; rfl) dL_law_280 (fun H locs hw => ?_)
  refine lv_iload hx hb dL_law_281 (lv_at hl 8 rfl) ?_
  refine lv_bipush (v := 28) hx hb dL_law_283 (by decide) ?_
  refine lv_icmp_ge (tgt := 297) hx hb dL_law_285 (by decide) (fun c_52 => ?_) (fun c_52 => ?_)
  · replace h := h.1 c_52
    exact k_L_law_297 X hL hi hX hbl hbA aX aI28 aI48 aI281 aI481 hN hP hK303 _ _ _ _ _ _ _ _ _ _ _ h hw hl
  replace h := h.2 c_52
  refine lv_aload_n hx hb dL_law_288 rfl (lv_at hl 2 rfl) ?_
  refine lv_iload hx hb dL_law_289 (lv_at hl 8 rfl) ?_
  refine lv_aload hx hb dL_law_291 (lv_at hl 4 rfl) ?_
  refine lv_iload hx hb dL_law_293 (lv_at hl 8 rfl) ?_
  obtain ⟨hi_48, h⟩ := h
  refine r_iald (v := (vI281 (Int32.toNatClampNeg x10))) X hw 63 rfl hi_48 rfl dL_law_295 ?_
  refine lv_topi (fun f_49 ef_49 => ?_)
  replace h := h f_49 ef_49
  obtain ⟨hi_50, h⟩ := h
  obtain ⟨o_51, eo_51⟩ : ∃ z : Nat → Int32, z = upd vI28 (Int32.toNatClampNeg x10) f_49 := ⟨_, rfl⟩
  replace h := h o_51 eo_51
  refine r_iast (ws' := (xW t aX vX ++ (i28W t aI28 o_51 ++ (i48W t aI48 o_46 ++ (i28W t aI281 vI281 ++ (i48W t aI481 vI481)))))) X hw 61 rfl hi_50 (by subst eo_51; rfl) dL_law_296 (fun H locs hw => ?_)
  exact k_L_law_297 X hL hi hX hbl hbA aX aI28 aI48 aI281 aI481 hN hP hK303 _ _ _ _ _ _ _ _ _ _ _ h hw hl
set_option maxHeartbeats 4000000 in
set_option maxRecDepth 100000 in
theorem k_L_law_265 {p : Program} {l : Launch} {e : Env} {s : State} {m : MethodId} {below : List Frame} {meth : Method} {c : Code} {args : Array Value} {D : va_G} {t : T3} {A : Nat → Prop} {Z : State → Prop} {b L i : Nat} {xs : Nat → Int32} (X : Cx p s m meth c args cL_law 11 (some .boolean) RL wsL_law D t A) (hL : L ≤ 260) (hi : i < 30) (hX : va_X b L xs s s.heap) (hbl : b < s.heap.size) (hbA : ¬ A b) (aX : XA) (aI28 : Nat) (aI48 : Nat) (aI281 : Nat) (aI481 : Nat) {Q : XV → IV → IV → IV → IV → Int32 → Prop} {K303 : XV → IV → IV → IV → IV → Int32 → Int32 → Prop} (hN : ∀ (vX : XV) (vI28 : IV) (vI48 : IV) (vI281 : IV) (vI481 : IV) (x6 : Int32) (H : Heap) (locs : List Loc) (ls : Array Slot), Q vX vI28 vI48 vI281 vI481 x6 → Wd D A s.heap (xW t aX vX ++ (i28W t aI28 vI28 ++ (i48W t aI48 vI48 ++ (i28W t aI281 vI281 ++ (i48W t aI481 vI481))))) H locs → lv_has ls 11 [(0, .ref b), (1, .ref (XA.o aX)), (2, .ref aI28), (3, .ref aI48), (4, .ref aI281), (5, .ref aI481), (6, .int x6)] → W p l e room_1 s m args below meth c H locs (200 + 20 * i + 20) (5000 + 500 * i + 500) Z (F0 m 318 ls [])) (hK303 : ∀ (vX : XV) (vI28 : IV) (vI48 : IV) (vI281 : IV) (vI481 : IV) (x6 : Int32) (x8 : Int32) (H : Heap) (locs : List Loc) (ls : Array Slot), K303 vX vI28 vI48 vI281 vI481 x6 x8 → Wd D A s.heap (xW t aX vX ++ (i28W t aI28 vI28 ++ (i48W t aI48 vI48 ++ (i28W t aI281 vI281 ++ (i48W t aI481 vI481))))) H locs → lv_has ls 11 [(0, .ref b), (1, .ref (XA.o aX)), (2, .ref aI28), (3, .ref aI48), (4, .ref aI281), (5, .ref aI481), (6, .int x6), (8, .int x8)] → W p l e room_1 s m args below meth c H locs (200 + 20 * i + 6) (5000 + 500 * i + 78) Z (F0 m 303 ls [])) : ∀ (vX : XV) (vI28 : IV) (vI48 : IV) (vI281 : IV) (vI481 : IV) (x6 : Int32) (x8 : Int32) (x10 : Int32) (H : Heap) (locs : List Loc) (ls : Array Slot), wp_L_law_265 Q K303 vX vI28 vI48 vI281 vI481 x6 x8 x10 → Wd D A s.heap (xW t aX vX ++ (i28W t aI28 vI28 ++ (i48W t aI48 vI48 ++ (i28W t aI281 vI281 ++ (i48W t aI481 vI481))))) H locs → lv_has ls 11 [(0, .ref b), (1, .ref (XA.o aX)), (2, .ref aI28), (3, .ref aI48), (4, .ref aI281), (5, .ref aI481), (6, .int x6), (8, .int x8), (10, .int x10)] → W p l e room_1 s m args below meth c H locs (200 + 20 * i + 6) (5000 + 500 * i + 78) Z (F0 m 265 ls []) := by
  intro vX vI28 vI48 vI281 vI481 x6 x8 x10 H locs ls h hw hl
  have hx := X.1.1
  have hb := X.1.2.1
  refine h (fun (vX : XV) (vI28 : IV) (vI48 : IV) (vI281 : IV) (vI481 : IV) (x6 : Int32) (x8 : Int32) (x10 : Int32) => ∀ (H : Heap) (locs : List Loc) (ls : Array Slot), Wd D A s.heap (xW t aX vX ++ (i28W t aI28 vI28 ++ (i48W t aI48 vI48 ++ (i28W t aI281 vI281 ++ (i48W t aI481 vI481))))) H locs → lv_has ls 11 [(0, .ref b), (1, .ref (XA.o aX)), (2, .ref aI28), (3, .ref aI48), (4, .ref aI281), (5, .ref aI481), (6, .int x6), (8, .int x8), (10, .int x10)] → W p l e room_1 s m args below meth c H locs (200 + 20 * i + 6) (5000 + 500 * i + 78) Z (F0 m 265 ls [])) (fun vX vI28 vI48 vI281 vI481 x6 x8 x10 h H locs ls hw hl => ?_) H locs ls hw hl
  exact kb_L_law_265 X hL hi hX hbl hbA aX aI28 aI48 aI281 aI481 hN (fun vX vI28 vI48 vI281 vI481 x6 x8 x10 H locs ls q hw hl => q H locs ls hw hl) hK303 vX vI28 vI48 vI281 vI481 x6 x8 x10 _ _ _ h hw hl
def wp_L_law_189 (Q : XV → IV → IV → IV → IV → Int32 → Prop) (vX : XV) (vI28 : IV) (vI48 : IV) (vI281 : IV) (vI481 : IV) (x6 : Int32) (x7 : Int32) (x8 : Int32) (x9 : Int32) (t1 : Int32) : Prop := wp_L_act vX vI28 vI48 t1 x7 x8 (fun (r_33 : Int32) (vX_30 : XV) (vI28_31 : IV) (vI48_32 : IV) => (r_33 = 0 → False) ∧ (¬ r_33 = 0 → wp_L_told vX_30 vI28_31 vI48_32 (jshr x8 2) (fun (r_37 : Int32) (vX_34 : XV) (vI28_35 : IV) (vI48_36 : IV) => (¬ r_37 = 0 → (6 < x9 → Q vX_34 vI28_35 vI48_36 vI281 vI481 x6) ∧ (¬ 6 < x9 → wp_X6_count vX_34 9 (fun (r_39 : Int32) (vX_38 : XV) => (¬ r_39 = (x9 + 1) → Q vX_38 vI28_35 vI48_36 vI281 vI481 x6) ∧ (r_39 = (x9 + 1) → wp_L_at  (jshr x8 9) 4 (fun (r_40 : Int32) => (r_40 ≤ 0 → wp_X6_undo vX_38  (fun (r_42 : Int32) (vX_41 : XV) => (r_42 = x9 → wp_L_law_265 Q (fun (vX_54 : XV) (vI28_55 : IV) (vI48_56 : IV) (vI281_57 : IV) (vI481_58 : IV) (x6_59 : Int32) (x8_60 : Int32) => wp_L_told vX_54 vI28_55 vI48_56 (jshr x8_60 3) (fun (r_64 : Int32) (vX_61 : XV) (vI28_62 : IV) (vI48_63 : IV) => (¬ r_64 = 0 → Q vX_61 vI28_62 vI48_63 vI281_57 vI481_58 x6_59) ∧ (r_64 = 0 → False))) vX_41 vI28_35 vI48_36 vI281 vI481 x6 x8 0) ∧ (¬ r_42 = x9 → False)) (fun (_ : String) (_ : XV) => False)) ∧ (¬ r_40 ≤ 0 → Q vX_38 vI28_35 vI48_36 vI281 vI481 x6)))) (fun (_ : String) (_ : XV) => False))) ∧ (r_37 = 0 → False))))
set_option maxHeartbeats 4000000 in
set_option maxRecDepth 100000 in
theorem k_L_law_189 {p : Program} {l : Launch} {e : Env} {s : State} {m : MethodId} {below : List Frame} {meth : Method} {c : Code} {args : Array Value} {D : va_G} {t : T3} {A : Nat → Prop} {Z : State → Prop} {b L i : Nat} {xs : Nat → Int32} (X : Cx p s m meth c args cL_law 11 (some .boolean) RL wsL_law D t A) (hL : L ≤ 260) (hi : i < 30) (hX : va_X b L xs s s.heap) (hbl : b < s.heap.size) (hbA : ¬ A b) (aX : XA) (aI28 : Nat) (aI48 : Nat) (aI281 : Nat) (aI481 : Nat) {Q : XV → IV → IV → IV → IV → Int32 → Prop} (hN : ∀ (vX : XV) (vI28 : IV) (vI48 : IV) (vI281 : IV) (vI481 : IV) (x6 : Int32) (H : Heap) (locs : List Loc) (ls : Array Slot), Q vX vI28 vI48 vI281 vI481 x6 → Wd D A s.heap (xW t aX vX ++ (i28W t aI28 vI28 ++ (i48W t aI48 vI48 ++ (i28W t aI281 vI281 ++ (i48W t aI481 vI481))))) H locs → lv_has ls 11 [(0, .ref b), (1, .ref (XA.o aX)), (2, .ref aI28), (3, .ref aI48), (4, .ref aI281), (5, .ref aI481), (6, .int x6)] → W p l e room_1 s m args below meth c H locs (200 + 20 * i + 20) (5000 + 500 * i + 500) Z (F0 m 318 ls [])) : ∀ (vX : XV) (vI28 : IV) (vI48 : IV) (vI281 : IV) (vI481 : IV) (x6 : Int32) (x7 : Int32) (x8 : Int32) (x9 : Int32) (t1 : Int32) (H : Heap) (locs : List Loc) (ls : Array Slot), wp_L_law_189 Q vX vI28 vI48 vI281 vI481 x6 x7 x8 x9 t1 → Wd D A s.heap (xW t aX vX ++ (i28W t aI28 vI28 ++ (i48W t aI48 vI48 ++ (i28W t aI281 vI281 ++ (i48W t aI481 vI481))))) H locs → lv_has ls 11 [(0, .ref b), (1, .ref (XA.o aX)), (2, .ref aI28), (3, .ref aI48), (4, .ref aI281), (5, .ref aI481), (6, .int x6), (7, .int x7), (8, .int x8), (9, .int x9)] → W p l e room_1 s m args below meth c H locs (200 + 20 * i + 0) (5000 + 500 * i + 0) Z (F0 m 189 ls [.int t1, .ref (XA.o aX)]) := by
  intro vX vI28 vI48 vI281 vI481 x6 x7 x8 x9 t1 H locs ls h hw hl
  have hx := X.1.1
  have hb := X.1.2.1
  refine lv_iload hx hb dL_law_189 (lv_at hl 7 rfl) ?_
  refine lv_iload hx hb dL_law_191 (lv_at hl 8 rfl) ?_
  refine lv_aload_n hx hb dL_law_193 rfl (lv_at hl 2 rfl) ?_
  refine lv_aload_n hx hb dL_law_194 rfl (lv_at hl 3 rfl) ?_
  refine r_ci X hw (pm_2 (pm_l pm_0) (pm_2 (pm_r (pm_l pm_0)) (pm_r (pm_r (pm_l pm_0))))) (wn := fun (u : XV × IV × IV) => (xW t aX u.1 ++ (i28W t aI28 u.2.1 ++ (i48W t aI48 u.2.2 ++ (i28W t aI281 vI281 ++ (i48W t aI481 vI481)))))) (fun u => (pm_2 (pm_l pm_0) (pm_2 (pm_r (pm_l pm_0)) (pm_r (pm_r (pm_l pm_0))))).symm) (r_runS X hw (c_L_act l D t aX aI28 aI48 vX vI28 vI48 t1 x7 x8 _ h) (pm_2 (pm_l pm_0) (pm_2 (pm_r (pm_l pm_0)) (pm_r (pm_r (pm_l pm_0))))) (va_cwS 6 X.1.2.2.2.2 gL_law_L_act rfl rfl rfl (by decide +kernel) ⟨Nat.le_of_ble_eq_true rfl, Nat.le_of_ble_eq_true rfl⟩) rfl hl rfl (Nat.le_of_ble_eq_true rfl) dL_law_195 ⟨by show 200 + 20 * i + 0 + 3 ≤ 600130; omega, by show 5000 + 500 * i + 0 + 39 ≤ 7301080; omega⟩) (fun r_33 u H locs h hw => ?_)
  obtain ⟨vX_30, vI28_31, vI48_32⟩ := u
  refine lv_if_eq (tgt := 214) hx hb dL_law_198 (by decide) (fun c_71 => ?_) (fun c_71 => ?_)
  · replace h := h.1 c_71
    refine lv_iconst (v := 0) hx hb dL_law_214 (by decide) ?_
    exact h.elim
  replace h := h.2 c_71
  refine lv_aload_n hx hb dL_law_201 rfl (lv_at hl 1 rfl) ?_
  refine lv_iload hx hb dL_law_202 (lv_at hl 8 rfl) ?_
  refine lv_iconst (v := 2) hx hb dL_law_204 (by decide) ?_
  refine r_ishr hx hb dL_law_205 ?_
  refine lv_aload_n hx hb dL_law_206 rfl (lv_at hl 2 rfl) ?_
  refine lv_aload_n hx hb dL_law_207 rfl (lv_at hl 3 rfl) ?_
  refine r_ci X hw (pm_2 (pm_l pm_0) (pm_2 (pm_r (pm_l pm_0)) (pm_r (pm_r (pm_l pm_0))))) (wn := fun (u : XV × IV × IV) => (xW t aX u.1 ++ (i28W t aI28 u.2.1 ++ (i48W t aI48 u.2.2 ++ (i28W t aI281 vI281 ++ (i48W t aI481 vI481)))))) (fun u => (pm_2 (pm_l pm_0) (pm_2 (pm_r (pm_l pm_0)) (pm_r (pm_r (pm_l pm_0))))).symm) (r_runS X hw (c_L_told l D t aX aI28 aI48 vX_30 vI28_31 vI48_32 (jshr x8 2) _ h) (pm_2 (pm_l pm_0) (pm_2 (pm_r (pm_l pm_0)) (pm_r (pm_r (pm_l pm_0))))) (va_cwS 4 X.1.2.2.2.2 gL_law_L_told rfl rfl rfl (by decide +kernel) ⟨Nat.le_of_ble_eq_true rfl, Nat.le_of_ble_eq_true rfl⟩) rfl hl rfl (Nat.le_of_ble_eq_true rfl) dL_law_208 ⟨by show 200 + 20 * i + 3 + 3 ≤ 600130; omega, by show 5000 + 500 * i + 39 + 39 ≤ 7301080; omega⟩) (fun r_37 u H locs h hw => ?_)
  obtain ⟨vX_34, vI28_35, vI48_36⟩ := u
  refine lv_if_ne (tgt := 216) hx hb dL_law_211 (by decide) (fun c_70 => ?_) (fun c_70 => ?_)
  · replace h := h.1 c_70
    refine lv_iload hx hb dL_law_216 (lv_at hl 9 rfl) ?_
    refine lv_bipush (v := 6) hx hb dL_law_218 (by decide) ?_
    refine lv_icmp_gt (tgt := 318) hx hb dL_law_220 (by decide) (fun c_69 => ?_) (fun c_69 => ?_)
    · replace h := h.1 c_69
      refine W.widen (k := 200 + 20 * i + 20) (n := 5000 + 500 * i + 500) (by omega) (by omega) ?_
      exact hN _ _ _ _ _ _ _ _ _ h hw (lv_sub hl [0, 1, 2, 3, 4, 5, 6] rfl)
    replace h := h.2 c_69
    refine lv_aload_n hx hb dL_law_223 rfl (lv_at hl 1 rfl) ?_
    refine lv_bipush (v := 9) hx hb dL_law_224 (by decide) ?_
    refine r_ci X hw (pm_l pm_0) (wn := fun (u : XV) => (xW t aX u ++ (i28W t aI28 vI28_35 ++ (i48W t aI48 vI48_36 ++ (i28W t aI281 vI281 ++ (i48W t aI481 vI481)))))) (fun u => (pm_l pm_0).symm) (r_runV X hw (c_X6_count l D t aX vX_34 9 _ h) (pm_l pm_0) (cwV 1 X.1.2.2.2.2 gL_law_X6_count rfl rfl rfl (by decide +kernel) ⟨Nat.le_of_ble_eq_true rfl, Nat.le_of_ble_eq_true rfl⟩) (ci := 6) rfl rfl rfl rfl hl rfl (Nat.le_of_ble_eq_true rfl) dL_law_226 ⟨by show 200 + 20 * i + 6 + 0 ≤ 600130; omega, by show 5000 + 500 * i + 78 + 0 ≤ 7301080; omega⟩) (fun r_39 u H locs h hw => ?_)
    obtain ⟨vX_38, rfl⟩ : ∃ z, z = u := ⟨_, rfl⟩
    refine lv_iload hx hb dL_law_229 (lv_at hl 9 rfl) ?_
    refine lv_iconst (v := 1) hx hb dL_law_231 (by decide) ?_
    refine lv_iadd hx hb dL_law_232 ?_
    refine lv_icmp_ne (tgt := 318) hx hb dL_law_233 (by decide) (fun c_68 => ?_) (fun c_68 => ?_)
    · replace h := h.1 c_68
      refine W.widen (k := 200 + 20 * i + 20) (n := 5000 + 500 * i + 500) (by omega) (by omega) ?_
      exact hN _ _ _ _ _ _ _ _ _ h hw (lv_sub hl [0, 1, 2, 3, 4, 5, 6] rfl)
    replace h := h.2 c_68
    refine lv_iload hx hb dL_law_236 (lv_at hl 8 rfl) ?_
    refine lv_bipush (v := 9) hx hb dL_law_238 (by decide) ?_
    refine r_ishr hx hb dL_law_240 ?_
    refine lv_iconst (v := 4) hx hb dL_law_241 (by decide) ?_
    refine r_ci X hw pm_n (wn := fun (u : Unit) => (xW t aX vX_38 ++ (i28W t aI28 vI28_35 ++ (i48W t aI48 vI48_36 ++ (i28W t aI281 vI281 ++ (i48W t aI481 vI481)))))) (fun u => (pm_n).symm) (r_runS X hw (c_L_at l D t (jshr x8 9) 4 _ h) pm_n (va_cwS 2 X.1.2.2.2.2 gL_law_L_at rfl rfl rfl (by decide +kernel) ⟨Nat.le_of_ble_eq_true rfl, Nat.le_of_ble_eq_true rfl⟩) rfl hl rfl (Nat.le_of_ble_eq_true rfl) dL_law_242 ⟨by show 200 + 20 * i + 6 + 0 ≤ 600130; omega, by show 5000 + 500 * i + 78 + 0 ≤ 7301080; omega⟩) (fun r_40 u H locs h hw => ?_)
    refine lv_if_le (tgt := 251) hx hb dL_law_245 (by decide) (fun c_67 => ?_) (fun c_67 => ?_)
    · replace h := h.1 c_67
      refine lv_aload_n hx hb dL_law_251 rfl (lv_at hl 1 rfl) ?_
      refine r_ci X hw (pm_l pm_0) (wn := fun (u : XV) => (xW t aX u ++ (i28W t aI28 vI28_35 ++ (i48W t aI48 vI48_36 ++ (i28W t aI281 vI281 ++ (i48W t aI481 vI481)))))) (fun u => (pm_l pm_0).symm) (r_runV X hw (c_X6_undo l D t aX vX_38 _ h) (pm_l pm_0) (cwV 0 X.1.2.2.2.2 gL_law_X6_undo rfl rfl rfl (by decide +kernel) ⟨Nat.le_of_ble_eq_true rfl, Nat.le_of_ble_eq_true rfl⟩) (ci := 6) rfl rfl rfl rfl hl rfl (Nat.le_of_ble_eq_true rfl) dL_law_252 ⟨by show 200 + 20 * i + 6 + 0 ≤ 600130; omega, by show 5000 + 500 * i + 78 + 0 ≤ 7301080; omega⟩) (fun r_42 u H locs h hw => ?_)
      obtain ⟨vX_41, rfl⟩ : ∃ z, z = u := ⟨_, rfl⟩
      refine lv_iload hx hb dL_law_255 (lv_at hl 9 rfl) ?_
      refine lv_icmp_eq (tgt := 262) hx hb dL_law_257 (by decide) (fun c_66 => ?_) (fun c_66 => ?_)
      · replace h := h.1 c_66
        refine lv_iconst (v := 0) hx hb dL_law_262 (by decide) ?_
        refine lv_istore (lv' := [(10, .int 0), (0, .ref b), (1, .ref (XA.o aX)), (2, .ref aI28), (3, .ref aI48), (4, .ref aI281), (5, .ref aI481), (6, .int x6), (7, .int x7), (8, .int x8), (9, .int x9)]) hx hb dL_law_263 hl (by decide) rfl (fun ls hl => ?_)
        refine k_L_law_265 X hL hi hX hbl hbA aX aI28 aI48 aI281 aI481 hN (fun vX_54 vI28_55 vI48_56 vI281_57 vI481_58 x6_59 x8_60 H locs ls h hw hl => ?_) _ _ _ _ _ _ _ _ _ _ _ h hw (lv_sub hl [1, 2, 3, 4, 5, 6, 7, 9, 0] rfl)
        refine lv_aload_n hx hb dL_law_303 rfl (lv_at hl 1 rfl) ?_
        refine lv_iload hx hb dL_law_304 (lv_at hl 7 rfl) ?_
        refine lv_iconst (v := 3) hx hb dL_law_306 (by decide) ?_
        refine r_ishr hx hb dL_law_307 ?_
        refine lv_aload_n hx hb dL_law_308 rfl (lv_at hl 2 rfl) ?_
        refine lv_aload_n hx hb dL_law_309 rfl (lv_at hl 3 rfl) ?_
        refine r_ci X hw (pm_2 (pm_l pm_0) (pm_2 (pm_r (pm_l pm_0)) (pm_r (pm_r (pm_l pm_0))))) (wn := fun (u : XV × IV × IV) => (xW t aX u.1 ++ (i28W t aI28 u.2.1 ++ (i48W t aI48 u.2.2 ++ (i28W t aI281 vI281_57 ++ (i48W t aI481 vI481_58)))))) (fun u => (pm_2 (pm_l pm_0) (pm_2 (pm_r (pm_l pm_0)) (pm_r (pm_r (pm_l pm_0))))).symm) (r_runS X hw (c_L_told l D t aX aI28 aI48 vX_54 vI28_55 vI48_56 (jshr x8_60 3) _ h) (pm_2 (pm_l pm_0) (pm_2 (pm_r (pm_l pm_0)) (pm_r (pm_r (pm_l pm_0))))) (va_cwS 4 X.1.2.2.2.2 gL_law_L_told rfl rfl rfl (by decide +kernel) ⟨Nat.le_of_ble_eq_true rfl, Nat.le_of_ble_eq_true rfl⟩) rfl hl rfl (Nat.le_of_ble_eq_true rfl) dL_law_310 ⟨by show 200 + 20 * i + 6 + 3 ≤ 600130; omega, by show 5000 + 500 * i + 78 + 39 ≤ 7301080; omega⟩) (fun r_64 u H locs h hw => ?_)
        obtain ⟨vX_61, vI28_62, vI48_63⟩ := u
        refine lv_if_ne (tgt := 318) hx hb dL_law_313 (by decide) (fun c_65 => ?_) (fun c_65 => ?_)
        · replace h := h.1 c_65
          refine W.widen (k := 200 + 20 * i + 20) (n := 5000 + 500 * i + 500) (by omega) (by omega) ?_
          exact hN _ _ _ _ _ _ _ _ _ h hw (lv_sub hl [0, 1, 2, 3, 4, 5, 6] rfl)
        replace h := h.2 c_65
        refine lv_iconst (v := 0) hx hb dL_law_316 (by decide) ?_
        exact h.elim
      replace h := h.2 c_66
      refine lv_iconst (v := 0) hx hb dL_law_260 (by decide) ?_
      exact h.elim
    replace h := h.2 c_67
    refine lv_goto (tgt := 318) hx hb dL_law_248 (by decide) ?_
    refine W.widen (k := 200 + 20 * i + 20) (n := 5000 + 500 * i + 500) (by omega) (by omega) ?_
    exact hN _ _ _ _ _ _ _ _ _ h hw (lv_sub hl [0, 1, 2, 3, 4, 5, 6] rfl)
  replace h := h.2 c_70
  refine lv_iconst (v := 0) hx hb dL_law_214 (by decide) ?_
  exact h.elim
def wp_L_lawB (Q : XV → IV → IV → IV → IV → Int32 → Prop) (vX : XV) (vI28 : IV) (vI48 : IV) (vI281 : IV) (vI481 : IV) (x6 : Int32) : Prop := (∃ j : Nat, j < 1000 ∧ (2 * x6) = nI j) ∧ ∀ r_1 : Int32, ∀ x7_3 : Int32, x7_3 = (r_1 &&& 2147483647) → (∃ j : Nat, j < 1000 ∧ ((2 * x6) + 1) = nI j) ∧ ∀ r_4 : Int32, ∀ x8_6 : Int32, x8_6 = (r_4 &&& 2147483647) → wp_X6_count vX 9 (fun (r_8 : Int32) (vX_7 : XV) => wp_L_law_131 Q (fun (vX_20 : XV) (vI28_21 : IV) (vI48_22 : IV) (vI281_23 : IV) (vI481_24 : IV) (x6_25 : Int32) (x7_26 : Int32) (x8_27 : Int32) (x9_28 : Int32) => (¬ x6_25 = 0 → wp_L_at  (jshr x7_26 13) 13 (fun (r_29 : Int32) => wp_L_law_189  Q vX_20 vI28_21 vI48_22 vI281_23 vI481_24 x6_25 x7_26 x8_27 x9_28 r_29)) ∧ (x6_25 = 0 → wp_L_law_189  Q vX_20 vI28_21 vI48_22 vI281_23 vI481_24 x6_25 x7_26 x8_27 x9_28 0)) vX_7 vI28 vI48 vI281 vI481 x6 x7_3 x8_6 r_8 0) (fun (_ : String) (_ : XV) => False)
set_option maxHeartbeats 4000000 in
set_option maxRecDepth 100000 in
theorem k_L_lawB {p : Program} {l : Launch} {e : Env} {s : State} {m : MethodId} {below : List Frame} {meth : Method} {c : Code} {args : Array Value} {D : va_G} {t : T3} {A : Nat → Prop} {Z : State → Prop} {b L i : Nat} {xs : Nat → Int32} (X : Cx p s m meth c args cL_law 11 (some .boolean) RL wsL_law D t A) (hL : L ≤ 260) (hi : i < 30) (hX : va_X b L xs s s.heap) (hbl : b < s.heap.size) (hbA : ¬ A b) (aX : XA) (aI28 : Nat) (aI48 : Nat) (aI281 : Nat) (aI481 : Nat) {Q : XV → IV → IV → IV → IV → Int32 → Prop} (hN : ∀ (vX : XV) (vI28 : IV) (vI48 : IV) (vI281 : IV) (vI481 : IV) (x6 : Int32) (H : Heap) (locs : List Loc) (ls : Array Slot), Q vX vI28 vI48 vI281 vI481 x6 → Wd D A s.heap (xW t aX vX ++ (i28W t aI28 vI28 ++ (i48W t aI48 vI48 ++ (i28W t aI281 vI281 ++ (i48W t aI481 vI481))))) H locs → lv_has ls 11 [(0, .ref b), (1, .ref (XA.o aX)), (2, .ref aI28), (3, .ref aI48), (4, .ref aI281), (5, .ref aI481), (6, .int x6)] → W p l e room_1 s m args below meth c H locs (200 + 20 * i + 20) (5000 + 500 * i + 500) Z (F0 m 318 ls [])) : ∀ (vX : XV) (vI28 : IV) (vI48 : IV) (vI281 : IV) (vI481 : IV) (x6 : Int32) (H : Heap) (locs : List Loc) (ls : Array Slot), wp_L_lawB Q vX vI28 vI48 vI281 vI481 x6 → Wd D A s.heap (xW t aX vX ++ (i28W t aI28 vI28 ++ (i48W t aI48 vI48 ++ (i28W t aI281 vI281 ++ (i48W t aI481 vI481))))) H locs → lv_has ls 11 [(0, .ref b), (1, .ref (XA.o aX)), (2, .ref aI28), (3, .ref aI48), (4, .ref aI281), (5, .ref aI481), (6, .int x6)] → W p l e room_1 s m args below meth c H locs (200 + 20 * i + 0) (5000 + 500 * i + 0) Z (F0 m 92 ls []) := by
  intro vX vI28 vI48 vI281 vI481 x6 H locs ls h hw hl
  have hx := X.1.1
  have hb := X.1.2.1
  refine lv_aload_n hx hb dL_law_92 rfl (lv_at hl 0 rfl) ?_
  refine lv_iconst (v := 2) hx hb dL_law_93 (by decide) ?_
  refine lv_iload hx hb dL_law_94 (lv_at hl 6 rfl) ?_
  refine lv_imul hx hb dL_law_96 ?_
  obtain ⟨hk_2, h⟩ := h
  refine r_cell X hw hX hbl hbA hL hl ⟨by omega, by omega⟩ hk_2 dL_law_97 (fun r_1 H locs hw => ?_)
  replace h := h r_1
  refine lv_ldc (v := 2147483647) hx hb X.1.2.2.2.1 (X.1.2.2.2.2 _ k_L_law_110) dL_law_100 ?_
  refine lv_iand hx hb dL_law_102 ?_
  refine lv_topi (fun x7_3 ex7_3 => ?_)
  replace h := h x7_3 ex7_3
  refine lv_istore (lv' := [(7, .int x7_3), (0, .ref b), (1, .ref (XA.o aX)), (2, .ref aI28), (3, .ref aI48), (4, .ref aI281), (5, .ref aI481), (6, .int x6)]) hx hb dL_law_103 hl (by decide) rfl (fun ls hl => ?_)
  refine lv_aload_n hx hb dL_law_105 rfl (lv_at hl 1 rfl) ?_
  refine lv_iconst (v := 2) hx hb dL_law_106 (by decide) ?_
  refine lv_iload hx hb dL_law_107 (lv_at hl 7 rfl) ?_
  refine lv_imul hx hb dL_law_109 ?_
  refine lv_iconst (v := 1) hx hb dL_law_110 (by decide) ?_
  refine lv_iadd hx hb dL_law_111 ?_
  obtain ⟨hk_5, h⟩ := h
  refine r_cell X hw hX hbl hbA hL hl ⟨by omega, by omega⟩ hk_5 dL_law_112 (fun r_4 H locs hw => ?_)
  replace h := h r_4
  refine lv_ldc (v := 2147483647) hx hb X.1.2.2.2.1 (X.1.2.2.2.2 _ k_L_law_110) dL_law_115 ?_
  refine lv_iand hx hb dL_law_117 ?_
  refine lv_topi (fun x8_6 ex8_6 => ?_)
  replace h := h x8_6 ex8_6
  refine lv_istore (lv' := [(8, .int x8_6), (7, .int x7_3), (0, .ref b), (1, .ref (XA.o aX)), (2, .ref aI28), (3, .ref aI48), (4, .ref aI281), (5, .ref aI481), (6, .int x6)]) hx hb dL_law_118 hl (by decide) rfl (fun ls hl => ?_)
  refine lv_aload_n hx hb dL_law_120 rfl (lv_at hl 3 rfl) ?_
  refine lv_bipush (v := 9) hx hb dL_law_121 (by decide) ?_
  refine r_ci X hw (pm_l pm_0) (wn := fun (u : XV) => (xW t aX u ++ (i28W t aI28 vI28 ++ (i48W t aI48 vI48 ++ (i28W t aI281 vI281 ++ (i48W t aI481 vI481)))))) (fun u => (pm_l pm_0).symm) (r_runV X hw (c_X6_count l D t aX vX 9 _ h) (pm_l pm_0) (cwV 1 X.1.2.2.2.2 gL_law_X6_count rfl rfl rfl (by decide +kernel) ⟨Nat.le_of_ble_eq_true rfl, Nat.le_of_ble_eq_true rfl⟩) (ci := 6) rfl rfl rfl rfl hl rfl (Nat.le_of_ble_eq_true rfl) dL_law_123 ⟨by show 200 + 20 * i + 0 + 0 ≤ 600130; omega, by show 5000 + 500 * i + 0 + 0 ≤ 7301080; omega⟩) (fun r_8 u H locs h hw => ?_)
  obtain ⟨vX_7, rfl⟩ : ∃ z, z = u := ⟨_, rfl⟩
  refine lv_istore (lv' := [(9, .int r_8), (8, .int x8_6), (7, .int x7_3), (0, .ref b), (1, .ref (XA.o aX)), (2, .ref aI28), (3, .ref aI48), (4, .ref aI281), (5, .ref aI481), (6, .int x6)]) hx hb dL_law_126 hl (by decide) rfl (fun ls hl => ?_)
  refine lv_iconst (v := 0) hx hb dL_law_128 (by decide) ?_
  refine lv_istore (lv' := [(10, .int 0), (9, .int r_8), (8, .int x8_6), (7, .int x7_3), (0, .ref b), (1, .ref (XA.o aX)), (2, .ref aI28), (3, .ref aI48), (4, .ref aI281), (5, .ref aI481), (6, .int x6)]) hx hb dL_law_129 hl (by decide) rfl (fun ls hl => ?_)
  refine k_L_law_131 X hL hi hX hbl hbA aX aI28 aI48 aI281 aI481 hN (fun vX_20 vI28_21 vI48_22 vI281_23 vI481_24 x6_25 x7_26 x8_27 x9_28 H locs ls h hw hl => ?_) _ _ _ _ _ _ _ _ _ _ _ _ _ h hw (lv_sub hl [4, 5, 6, 7, 8, 9, 10, 3, 2, 1, 0] rfl)
  refine lv_aload_n hx hb dL_law_169 rfl (lv_at hl 1 rfl) ?_
  refine lv_iload hx hb dL_law_170 (lv_at hl 6 rfl) ?_
  refine lv_if_ne (tgt := 179) hx hb dL_law_172 (by decide) (fun c_72 => ?_) (fun c_72 => ?_)
  · replace h := h.1 c_72
    refine lv_iload hx hb dL_law_179 (lv_at hl 7 rfl) ?_
    refine lv_bipush (v := 13) hx hb dL_law_181 (by decide) ?_
    refine r_ishr hx hb dL_law_183 ?_
    refine lv_bipush (v := 13) hx hb dL_law_184 (by decide) ?_
    refine r_ci X hw pm_n (wn := fun (u : Unit) => (xW t aX vX_20 ++ (i28W t aI28 vI28_21 ++ (i48W t aI48 vI48_22 ++ (i28W t aI281 vI281_23 ++ (i48W t aI481 vI481_24)))))) (fun u => (pm_n).symm) (r_runS X hw (c_L_at l D t (jshr x7_26 13) 13 _ h) pm_n (va_cwS 2 X.1.2.2.2.2 gL_law_L_at rfl rfl rfl (by decide +kernel) ⟨Nat.le_of_ble_eq_true rfl, Nat.le_of_ble_eq_true rfl⟩) rfl hl rfl (Nat.le_of_ble_eq_true rfl) dL_law_186 ⟨by show 200 + 20 * i + 0 + 0 ≤ 600130; omega, by show 5000 + 500 * i + 0 + 0 ≤ 7301080; omega⟩) (fun r_29 u H locs h hw => ?_)
    exact k_L_law_189 X hL hi hX hbl hbA aX aI28 aI48 aI281 aI481 hN _ _ _ _ _ _ _ _ _ _ _ _ _ h hw hl
  replace h := h.2 c_72
  refine lv_iconst (v := 0) hx hb dL_law_175 (by decide) ?_
  refine lv_goto (tgt := 189) hx hb dL_law_176 (by decide) ?_
  exact k_L_law_189 X hL hi hX hbl hbA aX aI28 aI48 aI281 aI481 hN _ _ _ _ _ _ _ _ _ _ _ _ _ h hw hl
