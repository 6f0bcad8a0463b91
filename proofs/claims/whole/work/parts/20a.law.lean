/-! the law's own rows -/
theorem nI_p1 (i : Nat) : nI i + 1 = nI (i + 1) := (Int32.ofNat_add i 1).symm
theorem nI_p2 (i : Nat) : nI i + 2 = nI (i + 2) := (Int32.ofNat_add i 2).symm
theorem nI_p3 (i : Nat) : nI i + 3 = nI (i + 3) := (Int32.ofNat_add i 3).symm
theorem nI_p4 (i : Nat) : nI i + 4 = nI (i + 4) := (Int32.ofNat_add i 4).symm
section RL
variable {p : Program} {l : Launch} {e : Env} {R : Room} {s : State} {m : MethodId} {args : Array Value} {below : List Frame} {meth : Method} {c : Code} {H : Heap} {locs : List Loc} {cells slots : Nat} {Q : State → Prop}
variable {cc : ByteArray} {nL : Nat} {ret : Option FieldType} {own : String} {Ts : List Cond} {D : va_G} {t : T3} {A : Nat → Prop} {ws : va_W} {pc : Nat} {ls : Array Slot} {rest : List Value} {b L : Nat} {xs : Nat → Int32}
theorem r_sld (X : Cx p s m meth c args cc nL ret own Ts D t A) (hw : Wd D A s.heap ws H locs) (hX : va_X b L xs s s.heap) (hbl : b < s.heap.size) (hbA : ¬ A b) (hL : L ≤ 2048) {j : Nat} (hj : j < L) (hdg : decode cc pc = .ok (.iaload, 1))
    (kk : W p l e R s m args below meth c H locs cells slots Q (F0 m (pc + 1) ls (.int (xs j) :: rest))) : W p l e R s m args below meth c H locs cells slots Q (F0 m pc ls (.int (nI j) :: .ref b :: rest)) := by
  refine va_sld X.1.1 X.1.2.1 hX hbl hbA hw.2.2 (i := nI j) (vp_in_nI hj (by omega)) hdg ?_
  rw [nI_clamp (by omega)]
  exact kk
theorem r_slen (X : Cx p s m meth c args cc nL ret own Ts D t A) (hw : Wd D A s.heap ws H locs) (hX : va_X b L xs s s.heap) (hbl : b < s.heap.size) (hbA : ¬ A b) (hdg : decode cc pc = .ok (.arraylength, 1))
    (kk : W p l e R s m args below meth c H locs cells slots Q (F0 m (pc + 1) ls (.int (nI L) :: rest))) : W p l e R s m args below meth c H locs cells slots Q (F0 m pc ls (.ref b :: rest)) :=
  va_slen X.1.1 X.1.2.1 hX hbl hbA hw.2.2 hdg kk
end RL
def wp_L_law_221 (xs : Nat → Int32) (i : Nat) (N : XV → MV → OV → Prop) (vX : XV) (vM : MV) (vO : OV) : Prop := N vX vM vO
set_option maxHeartbeats 4000000 in
set_option maxRecDepth 100000 in
theorem k_L_law_221 {p : Program} {l : Launch} {e : Env} {s : State} {m : MethodId} {below : List Frame} {meth : Method} {c : Code} {args : Array Value} {D : va_G} {t : T3} {A : Nat → Prop} {Z : State → Prop} {b L i : Nat} {xs : Nat → Int32} (X : Cx p s m meth c args cL_law 9 (some .boolean) RL wsL_law D t A) (hfl : l.stackTraces = false) (hL : L ≤ 2048) (hi : i + 4 ≤ L) (hX : va_X b L xs s s.heap) (hbl : b < s.heap.size) (hbA : ¬ A b) (aX : XA) (aM : MA) (aO : Nat) {N : XV → MV → OV → Prop} (hN : ∀ (vX : XV) (vM : MV) (vO : OV) (H : Heap) (locs : List Loc) (ls : Array Slot), N vX vM vO → Wd D A s.heap (xW t aX vX ++ (mW t aM vM ++ (oW t aO vO))) H locs → lv_has ls 9 [(0, .ref b), (1, .ref (XA.o aX)), (2, .ref (MA.o aM)), (3, .ref aO), (4, .int (nI i))] → W p l e room_1 s m args below meth c H locs (100 + i + 4) (3000 + 6 * i + 24) Z (F0 m 1385 ls [])) : ∀ (vX : XV) (vM : MV) (vO : OV) (H : Heap) (locs : List Loc) (ls : Array Slot), wp_L_law_221 xs i N vX vM vO → Wd D A s.heap (xW t aX vX ++ (mW t aM vM ++ (oW t aO vO))) H locs → lv_has ls 9 [(0, .ref b), (1, .ref (XA.o aX)), (2, .ref (MA.o aM)), (3, .ref aO), (4, .int (nI i))] → W p l e room_1 s m args below meth c H locs (100 + i + 1) (3000 + 6 * i + 6) Z (F0 m 221 ls []) := by
  intro vX vM vO H locs ls h hw hl
  have hx := X.1.1
  have hb := X.1.2.1
  refine lv_goto (tgt := 1385) hx hb dL_law_221 (by decide) ?_
  refine W.widen (k := 100 + i + 4) (n := 3000 + 6 * i + 24) (by omega) (by omega) ?_
  exact hN _ _ _ _ _ _ h hw hl
def wp_L_law_156 (xs : Nat → Int32) (i : Nat) (N : XV → MV → OV → Prop) (vX : XV) (vM : MV) (vO : OV) : Prop := wp_L_begin vX vO (xs (i + 1)) (xs (i + 2)) (fun (r_6 : Int32) (vX_4 : XV) (vO_5 : OV) => wp_X7_begin vM (xs (i + 1)) (xs (i + 2)) (fun (r_10 : Int32) (vM_9 : MV) => wp_X7_thrown vM_9  (fun (r_12 : Int32) (vM_11 : MV) => (r_12 = r_6 → (¬ r_6 = 0 → wp_L_law_221 xs i N vX_4 vM_11 vO_5) ∧ (r_6 = 0 → ((lg_cmp (vO_5 0) (Int32.toInt64 r_10)) = 0 → wp_L_law_221 xs i N vX_4 vM_11 vO_5) ∧ (¬ (lg_cmp (vO_5 0) (Int32.toInt64 r_10)) = 0 → False))) ∧ (¬ r_12 = r_6 → False))))
set_option maxHeartbeats 4000000 in
set_option maxRecDepth 100000 in
theorem k_L_law_156 {p : Program} {l : Launch} {e : Env} {s : State} {m : MethodId} {below : List Frame} {meth : Method} {c : Code} {args : Array Value} {D : va_G} {t : T3} {A : Nat → Prop} {Z : State → Prop} {b L i : Nat} {xs : Nat → Int32} (X : Cx p s m meth c args cL_law 9 (some .boolean) RL wsL_law D t A) (hfl : l.stackTraces = false) (hL : L ≤ 2048) (hi : i + 4 ≤ L) (hX : va_X b L xs s s.heap) (hbl : b < s.heap.size) (hbA : ¬ A b) (aX : XA) (aM : MA) (aO : Nat) {N : XV → MV → OV → Prop} (hN : ∀ (vX : XV) (vM : MV) (vO : OV) (H : Heap) (locs : List Loc) (ls : Array Slot), N vX vM vO → Wd D A s.heap (xW t aX vX ++ (mW t aM vM ++ (oW t aO vO))) H locs → lv_has ls 9 [(0, .ref b), (1, .ref (XA.o aX)), (2, .ref (MA.o aM)), (3, .ref aO), (4, .int (nI i))] → W p l e room_1 s m args below meth c H locs (100 + i + 4) (3000 + 6 * i + 24) Z (F0 m 1385 ls [])) : ∀ (vX : XV) (vM : MV) (vO : OV) (H : Heap) (locs : List Loc) (ls : Array Slot), wp_L_law_156 xs i N vX vM vO → Wd D A s.heap (xW t aX vX ++ (mW t aM vM ++ (oW t aO vO))) H locs → lv_has ls 9 [(0, .ref b), (1, .ref (XA.o aX)), (2, .ref (MA.o aM)), (3, .ref aO), (4, .int (nI i))] → W p l e room_1 s m args below meth c H locs (100 + i) (3000 + 6 * i) Z (F0 m 156 ls []) := by
  intro vX vM vO H locs ls h hw hl
  have hx := X.1.1
  have hb := X.1.2.1
  refine lv_aload_n hx hb dL_law_156 rfl (lv_at hl 1 rfl) ?_
  refine lv_aload_n hx hb dL_law_157 rfl (lv_at hl 0 rfl) ?_
  refine lv_iload hx hb dL_law_158 (lv_at hl 4 rfl) ?_
  refine lv_iconst (v := 1) hx hb dL_law_160 (by decide) ?_
  refine lv_iadd hx hb dL_law_161 ?_
  refine lv_topi (fun q_2 eq_2 => ?_)
  obtain rfl : q_2 = nI (i + 1) := eq_2.trans (nI_p1 i)
  refine r_sld X hw hX hbl hbA hL (j := (i + 1)) (by omega) dL_law_162 ?_
  refine lv_aload_n hx hb dL_law_163 rfl (lv_at hl 0 rfl) ?_
  refine lv_iload hx hb dL_law_164 (lv_at hl 4 rfl) ?_
  refine lv_iconst (v := 2) hx hb dL_law_166 (by decide) ?_
  refine lv_iadd hx hb dL_law_167 ?_
  refine lv_topi (fun q_3 eq_3 => ?_)
  obtain rfl : q_3 = nI (i + 2) := eq_3.trans (nI_p2 i)
  refine r_sld X hw hX hbl hbA hL (j := (i + 2)) (by omega) dL_law_168 ?_
  refine lv_aload_n hx hb dL_law_169 rfl (lv_at hl 3 rfl) ?_
  refine r_ci X hw (pm_2 (pm_l pm_0) (pm_r (pm_r pm_0))) (wn := fun (u : XV × OV) => (xW t aX u.1 ++ (mW t aM vM ++ (oW t aO u.2)))) (fun u => (pm_2 (pm_l pm_0) (pm_r (pm_r pm_0))).symm) (r_runSW X hw (c_L_begin l D t aX aO vX vO (xs (i + 1)) (xs (i + 2)) _ hfl h) (pm_2 (pm_l pm_0) (pm_r (pm_r pm_0))) (vx_cwSW 4 X.1.2.2.2.2 gL_law_L_begin rfl rfl rfl (by decide +kernel) ⟨Nat.le_of_ble_eq_true rfl, Nat.le_of_ble_eq_true rfl⟩) rfl hl rfl (Nat.le_of_ble_eq_true rfl) dL_law_170 ⟨by show 100 + i + 0 + 1 ≤ 601024; omega, by show 3000 + 6 * i + 0 + 6 ≤ 7293034; omega⟩) (fun r_6 u H locs h hw => ?_)
  obtain ⟨vX_4, vO_5⟩ := u
  refine lv_istore (lv' := [(5, .int r_6), (0, .ref b), (1, .ref (XA.o aX)), (2, .ref (MA.o aM)), (3, .ref aO), (4, .int (nI i))]) hx hb dL_law_173 hl (by decide) rfl (fun ls hl => ?_)
  refine lv_aload_n hx hb dL_law_175 rfl (lv_at hl 3 rfl) ?_
  refine lv_aload_n hx hb dL_law_176 rfl (lv_at hl 1 rfl) ?_
  refine lv_iload hx hb dL_law_177 (lv_at hl 5 rfl) ?_
  refine lv_iconst (v := 1) hx hb dL_law_179 (by decide) ?_
  refine lv_iadd hx hb dL_law_180 ?_
  refine lv_topi (fun q_7 eq_7 => ?_)
  obtain rfl : q_7 = nI (i + 1) := eq_7.trans (nI_p1 i)
  refine r_sld X hw hX hbl hbA hL (j := (i + 1)) (by omega) dL_law_181 ?_
  refine lv_aload_n hx hb dL_law_182 rfl (lv_at hl 1 rfl) ?_
  refine lv_iload hx hb dL_law_183 (lv_at hl 5 rfl) ?_
  refine lv_iconst (v := 2) hx hb dL_law_185 (by decide) ?_
  refine lv_iadd hx hb dL_law_186 ?_
  refine lv_topi (fun q_8 eq_8 => ?_)
  obtain rfl : q_8 = nI (i + 2) := eq_8.trans (nI_p2 i)
  refine r_sld X hw hX hbl hbA hL (j := (i + 2)) (by omega) dL_law_187 ?_
  refine r_ci X hw (pm_r (pm_l pm_0)) (wn := fun (u : MV) => (xW t aX vX_4 ++ (mW t aM u ++ (oW t aO vO_5)))) (fun u => (pm_r (pm_l pm_0)).symm) (r_runV X hw (c_X7_begin l D t aM vM (xs (i + 1)) (xs (i + 2)) _ h) (pm_r (pm_l pm_0)) (cwV 2 X.1.2.2.2.2 gL_law_X7_begin rfl rfl rfl (by decide +kernel) ⟨Nat.le_of_ble_eq_true rfl, Nat.le_of_ble_eq_true rfl⟩) (ci := 7) rfl rfl rfl rfl hl rfl (Nat.le_of_ble_eq_true rfl) dL_law_188 ⟨by show 100 + i + 1 + 0 ≤ 601024; omega, by show 3000 + 6 * i + 6 + 0 ≤ 7293034; omega⟩) (fun r_10 u H locs h hw => ?_)
  obtain ⟨vM_9, rfl⟩ : ∃ z, z = u := ⟨_, rfl⟩
  refine lv_istore (lv' := [(6, .int r_10), (5, .int r_6), (0, .ref b), (1, .ref (XA.o aX)), (2, .ref (MA.o aM)), (3, .ref aO), (4, .int (nI i))]) hx hb dL_law_191 hl (by decide) rfl (fun ls hl => ?_)
  refine lv_aload_n hx hb dL_law_193 rfl (lv_at hl 4 rfl) ?_
  refine r_ci X hw (pm_r (pm_l pm_0)) (wn := fun (u : MV) => (xW t aX vX_4 ++ (mW t aM u ++ (oW t aO vO_5)))) (fun u => (pm_r (pm_l pm_0)).symm) (r_runV X hw (c_X7_thrown l D t aM vM_9 _ h) (pm_r (pm_l pm_0)) (cwV 0 X.1.2.2.2.2 gL_law_X7_thrown rfl rfl rfl (by decide +kernel) ⟨Nat.le_of_ble_eq_true rfl, Nat.le_of_ble_eq_true rfl⟩) (ci := 7) rfl rfl rfl rfl hl rfl (Nat.le_of_ble_eq_true rfl) dL_law_194 ⟨by show 100 + i + 1 + 0 ≤ 601024; omega, by show 3000 + 6 * i + 6 + 0 ≤ 7293034; omega⟩) (fun r_12 u H locs h hw => ?_)
  obtain ⟨vM_11, rfl⟩ : ∃ z, z = u := ⟨_, rfl⟩
  refine lv_iload hx hb dL_law_197 (lv_at hl 1 rfl) ?_
  refine lv_icmp_eq (tgt := 204) hx hb dL_law_199 (by decide) (fun c_15 => ?_) (fun c_15 => ?_)
  · replace h := h.1 c_15
    refine lv_iload hx hb dL_law_204 (lv_at hl 1 rfl) ?_
    refine lv_if_ne (tgt := 221) hx hb dL_law_206 (by decide) (fun c_14 => ?_) (fun c_14 => ?_)
    · replace h := h.1 c_14
      exact k_L_law_221 X hfl hL hi hX hbl hbA aX aM aO hN _ _ _ _ _ _ h hw (lv_sub hl [2, 3, 4, 5, 6] rfl)
    replace h := h.2 c_14
    refine lv_aload_n hx hb dL_law_209 rfl (lv_at hl 5 rfl) ?_
    refine lv_iconst (v := 0) hx hb dL_law_210 (by decide) ?_
    refine r_lald (v := (vO_5 0)) X hw 69 rfl (vpl rfl) rfl dL_law_211 ?_
    refine lv_iload hx hb dL_law_212 (lv_at hl 0 rfl) ?_
    refine lv_i2l (v := Int32.toInt64 r_10) hx hb dL_law_214 rfl ?_
    refine W.lcmp hx hb dL_law_215 ?_
    refine lv_if_eq (tgt := 221) hx hb dL_law_216 (by decide) (fun c_13 => ?_) (fun c_13 => ?_)
    · replace h := h.1 c_13
      exact k_L_law_221 X hfl hL hi hX hbl hbA aX aM aO hN _ _ _ _ _ _ h hw (lv_sub hl [2, 3, 4, 5, 6] rfl)
    replace h := h.2 c_13
    refine lv_iconst (v := 0) hx hb dL_law_219 (by decide) ?_
    exact absurd h id
  replace h := h.2 c_15
  refine lv_iconst (v := 0) hx hb dL_law_202 (by decide) ?_
  exact absurd h id
def wp_L_law_289 (xs : Nat → Int32) (i : Nat) (N : XV → MV → OV → Prop) (vX : XV) (vM : MV) (vO : OV) : Prop := N vX vM vO
set_option maxHeartbeats 4000000 in
set_option maxRecDepth 100000 in
theorem k_L_law_289 {p : Program} {l : Launch} {e : Env} {s : State} {m : MethodId} {below : List Frame} {meth : Method} {c : Code} {args : Array Value} {D : va_G} {t : T3} {A : Nat → Prop} {Z : State → Prop} {b L i : Nat} {xs : Nat → Int32} (X : Cx p s m meth c args cL_law 9 (some .boolean) RL wsL_law D t A) (hfl : l.stackTraces = false) (hL : L ≤ 2048) (hi : i + 4 ≤ L) (hX : va_X b L xs s s.heap) (hbl : b < s.heap.size) (hbA : ¬ A b) (aX : XA) (aM : MA) (aO : Nat) {N : XV → MV → OV → Prop} (hN : ∀ (vX : XV) (vM : MV) (vO : OV) (H : Heap) (locs : List Loc) (ls : Array Slot), N vX vM vO → Wd D A s.heap (xW t aX vX ++ (mW t aM vM ++ (oW t aO vO))) H locs → lv_has ls 9 [(0, .ref b), (1, .ref (XA.o aX)), (2, .ref (MA.o aM)), (3, .ref aO), (4, .int (nI i))] → W p l e room_1 s m args below meth c H locs (100 + i + 4) (3000 + 6 * i + 24) Z (F0 m 1385 ls [])) : ∀ (vX : XV) (vM : MV) (vO : OV) (H : Heap) (locs : List Loc) (ls : Array Slot), wp_L_law_289 xs i N vX vM vO → Wd D A s.heap (xW t aX vX ++ (mW t aM vM ++ (oW t aO vO))) H locs → lv_has ls 9 [(0, .ref b), (1, .ref (XA.o aX)), (2, .ref (MA.o aM)), (3, .ref aO), (4, .int (nI i))] → W p l e room_1 s m args below meth c H locs (100 + i + 1) (3000 + 6 * i + 6) Z (F0 m 289 ls []) := by
  intro vX vM vO H locs ls h hw hl
  have hx := X.1.1
  have hb := X.1.2.1
  refine lv_goto (tgt := 1385) hx hb dL_law_289 (by decide) ?_
  refine W.widen (k := 100 + i + 4) (n := 3000 + 6 * i + 24) (by omega) (by omega) ?_
  exact hN _ _ _ _ _ _ h hw hl
def wp_L_law_224 (xs : Nat → Int32) (i : Nat) (N : XV → MV → OV → Prop) (vX : XV) (vM : MV) (vO : OV) : Prop := wp_L_addTile vX vO (xs (i + 1)) (xs (i + 2)) (fun (r_21 : Int32) (vX_19 : XV) (vO_20 : OV) => wp_X7_addTile vM (xs (i + 1)) (xs (i + 2)) (fun (r_25 : Int32) (vM_24 : MV) => wp_X7_thrown vM_24  (fun (r_27 : Int32) (vM_26 : MV) => (r_27 = r_21 → (¬ r_21 = 0 → wp_L_law_289 xs i N vX_19 vM_26 vO_20) ∧ (r_21 = 0 → ((lg_cmp (vO_20 0) (Int32.toInt64 r_25)) = 0 → wp_L_law_289 xs i N vX_19 vM_26 vO_20) ∧ (¬ (lg_cmp (vO_20 0) (Int32.toInt64 r_25)) = 0 → False))) ∧ (¬ r_27 = r_21 → False))))
set_option maxHeartbeats 4000000 in
set_option maxRecDepth 100000 in
theorem k_L_law_224 {p : Program} {l : Launch} {e : Env} {s : State} {m : MethodId} {below : List Frame} {meth : Method} {c : Code} {args : Array Value} {D : va_G} {t : T3} {A : Nat → Prop} {Z : State → Prop} {b L i : Nat} {xs : Nat → Int32} (X : Cx p s m meth c args cL_law 9 (some .boolean) RL wsL_law D t A) (hfl : l.stackTraces = false) (hL : L ≤ 2048) (hi : i + 4 ≤ L) (hX : va_X b L xs s s.heap) (hbl : b < s.heap.size) (hbA : ¬ A b) (aX : XA) (aM : MA) (aO : Nat) {N : XV → MV → OV → Prop} (hN : ∀ (vX : XV) (vM : MV) (vO : OV) (H : Heap) (locs : List Loc) (ls : Array Slot), N vX vM vO → Wd D A s.heap (xW t aX vX ++ (mW t aM vM ++ (oW t aO vO))) H locs → lv_has ls 9 [(0, .ref b), (1, .ref (XA.o aX)), (2, .ref (MA.o aM)), (3, .ref aO), (4, .int (nI i))] → W p l e room_1 s m args below meth c H locs (100 + i + 4) (3000 + 6 * i + 24) Z (F0 m 1385 ls [])) : ∀ (vX : XV) (vM : MV) (vO : OV) (H : Heap) (locs : List Loc) (ls : Array Slot), wp_L_law_224 xs i N vX vM vO → Wd D A s.heap (xW t aX vX ++ (mW t aM vM ++ (oW t aO vO))) H locs → lv_has ls 9 [(0, .ref b), (1, .ref (XA.o aX)), (2, .ref (MA.o aM)), (3, .ref aO), (4, .int (nI i))] → W p l e room_1 s m args below meth c H locs (100 + i) (3000 + 6 * i) Z (F0 m 224 ls []) := by
  intro vX vM vO H locs ls h hw hl
  have hx := X.1.1
  have hb := X.1.2.1
  refine lv_aload_n hx hb dL_law_224 rfl (lv_at hl 1 rfl) ?_
  refine lv_aload_n hx hb dL_law_225 rfl (lv_at hl 0 rfl) ?_
  refine lv_iload hx hb dL_law_226 (lv_at hl 4 rfl) ?_
  refine lv_iconst (v := 1) hx hb dL_law_228 (by decide) ?_
  refine lv_iadd hx hb dL_law_229 ?_
  refine lv_topi (fun q_17 eq_17 => ?_)
  obtain rfl : q_17 = nI (i + 1) := eq_17.trans (nI_p1 i)
  refine r_sld X hw hX hbl hbA hL (j := (i + 1)) (by omega) dL_law_230 ?_
  refine lv_aload_n hx hb dL_law_231 rfl (lv_at hl 0 rfl) ?_
  refine lv_iload hx hb dL_law_232 (lv_at hl 4 rfl) ?_
  refine lv_iconst (v := 2) hx hb dL_law_234 (by decide) ?_
  refine lv_iadd hx hb dL_law_235 ?_
  refine lv_topi (fun q_18 eq_18 => ?_)
  obtain rfl : q_18 = nI (i + 2) := eq_18.trans (nI_p2 i)
  refine r_sld X hw hX hbl hbA hL (j := (i + 2)) (by omega) dL_law_236 ?_
  refine lv_aload_n hx hb dL_law_237 rfl (lv_at hl 3 rfl) ?_
  refine r_ci X hw (pm_2 (pm_l pm_0) (pm_r (pm_r pm_0))) (wn := fun (u : XV × OV) => (xW t aX u.1 ++ (mW t aM vM ++ (oW t aO u.2)))) (fun u => (pm_2 (pm_l pm_0) (pm_r (pm_r pm_0))).symm) (r_runSW X hw (c_L_addTile l D t aX aO vX vO (xs (i + 1)) (xs (i + 2)) _ hfl h) (pm_2 (pm_l pm_0) (pm_r (pm_r pm_0))) (vx_cwSW 4 X.1.2.2.2.2 gL_law_L_addTile rfl rfl rfl (by decide +kernel) ⟨Nat.le_of_ble_eq_true rfl, Nat.le_of_ble_eq_true rfl⟩) rfl hl rfl (Nat.le_of_ble_eq_true rfl) dL_law_238 ⟨by show 100 + i + 0 + 1 ≤ 601024; omega, by show 3000 + 6 * i + 0 + 6 ≤ 7293034; omega⟩) (fun r_21 u H locs h hw => ?_)
  obtain ⟨vX_19, vO_20⟩ := u
  refine lv_istore (lv' := [(5, .int r_21), (0, .ref b), (1, .ref (XA.o aX)), (2, .ref (MA.o aM)), (3, .ref aO), (4, .int (nI i))]) hx hb dL_law_241 hl (by decide) rfl (fun ls hl => ?_)
  refine lv_aload_n hx hb dL_law_243 rfl (lv_at hl 3 rfl) ?_
  refine lv_aload_n hx hb dL_law_244 rfl (lv_at hl 1 rfl) ?_
  refine lv_iload hx hb dL_law_245 (lv_at hl 5 rfl) ?_
  refine lv_iconst (v := 1) hx hb dL_law_247 (by decide) ?_
  refine lv_iadd hx hb dL_law_248 ?_
  refine lv_topi (fun q_22 eq_22 => ?_)
  obtain rfl : q_22 = nI (i + 1) := eq_22.trans (nI_p1 i)
  refine r_sld X hw hX hbl hbA hL (j := (i + 1)) (by omega) dL_law_249 ?_
  refine lv_aload_n hx hb dL_law_250 rfl (lv_at hl 1 rfl) ?_
  refine lv_iload hx hb dL_law_251 (lv_at hl 5 rfl) ?_
  refine lv_iconst (v := 2) hx hb dL_law_253 (by decide) ?_
  refine lv_iadd hx hb dL_law_254 ?_
  refine lv_topi (fun q_23 eq_23 => ?_)
  obtain rfl : q_23 = nI (i + 2) := eq_23.trans (nI_p2 i)
  refine r_sld X hw hX hbl hbA hL (j := (i + 2)) (by omega) dL_law_255 ?_
  refine r_ci X hw (pm_r (pm_l pm_0)) (wn := fun (u : MV) => (xW t aX vX_19 ++ (mW t aM u ++ (oW t aO vO_20)))) (fun u => (pm_r (pm_l pm_0)).symm) (r_runV X hw (c_X7_addTile l D t aM vM (xs (i + 1)) (xs (i + 2)) _ h) (pm_r (pm_l pm_0)) (cwV 2 X.1.2.2.2.2 gL_law_X7_addTile rfl rfl rfl (by decide +kernel) ⟨Nat.le_of_ble_eq_true rfl, Nat.le_of_ble_eq_true rfl⟩) (ci := 7) rfl rfl rfl rfl hl rfl (Nat.le_of_ble_eq_true rfl) dL_law_256 ⟨by show 100 + i + 1 + 0 ≤ 601024; omega, by show 3000 + 6 * i + 6 + 0 ≤ 7293034; omega⟩) (fun r_25 u H locs h hw => ?_)
  obtain ⟨vM_24, rfl⟩ : ∃ z, z = u := ⟨_, rfl⟩
  refine lv_istore (lv' := [(6, .int r_25), (5, .int r_21), (0, .ref b), (1, .ref (XA.o aX)), (2, .ref (MA.o aM)), (3, .ref aO), (4, .int (nI i))]) hx hb dL_law_259 hl (by decide) rfl (fun ls hl => ?_)
  refine lv_aload_n hx hb dL_law_261 rfl (lv_at hl 4 rfl) ?_
  refine r_ci X hw (pm_r (pm_l pm_0)) (wn := fun (u : MV) => (xW t aX vX_19 ++ (mW t aM u ++ (oW t aO vO_20)))) (fun u => (pm_r (pm_l pm_0)).symm) (r_runV X hw (c_X7_thrown l D t aM vM_24 _ h) (pm_r (pm_l pm_0)) (cwV 0 X.1.2.2.2.2 gL_law_X7_thrown rfl rfl rfl (by decide +kernel) ⟨Nat.le_of_ble_eq_true rfl, Nat.le_of_ble_eq_true rfl⟩) (ci := 7) rfl rfl rfl rfl hl rfl (Nat.le_of_ble_eq_true rfl) dL_law_262 ⟨by show 100 + i + 1 + 0 ≤ 601024; omega, by show 3000 + 6 * i + 6 + 0 ≤ 7293034; omega⟩) (fun r_27 u H locs h hw => ?_)
  obtain ⟨vM_26, rfl⟩ : ∃ z, z = u := ⟨_, rfl⟩
  refine lv_iload hx hb dL_law_265 (lv_at hl 1 rfl) ?_
  refine lv_icmp_eq (tgt := 272) hx hb dL_law_267 (by decide) (fun c_30 => ?_) (fun c_30 => ?_)
  · replace h := h.1 c_30
    refine lv_iload hx hb dL_law_272 (lv_at hl 1 rfl) ?_
    refine lv_if_ne (tgt := 289) hx hb dL_law_274 (by decide) (fun c_29 => ?_) (fun c_29 => ?_)
    · replace h := h.1 c_29
      exact k_L_law_289 X hfl hL hi hX hbl hbA aX aM aO hN _ _ _ _ _ _ h hw (lv_sub hl [2, 3, 4, 5, 6] rfl)
    replace h := h.2 c_29
    refine lv_aload_n hx hb dL_law_277 rfl (lv_at hl 5 rfl) ?_
    refine lv_iconst (v := 0) hx hb dL_law_278 (by decide) ?_
    refine r_lald (v := (vO_20 0)) X hw 69 rfl (vpl rfl) rfl dL_law_279 ?_
    refine lv_iload hx hb dL_law_280 (lv_at hl 0 rfl) ?_
    refine lv_i2l (v := Int32.toInt64 r_25) hx hb dL_law_282 rfl ?_
    refine W.lcmp hx hb dL_law_283 ?_
    refine lv_if_eq (tgt := 289) hx hb dL_law_284 (by decide) (fun c_28 => ?_) (fun c_28 => ?_)
    · replace h := h.1 c_28
      exact k_L_law_289 X hfl hL hi hX hbl hbA aX aM aO hN _ _ _ _ _ _ h hw (lv_sub hl [2, 3, 4, 5, 6] rfl)
    replace h := h.2 c_28
    refine lv_iconst (v := 0) hx hb dL_law_287 (by decide) ?_
    exact absurd h id
  replace h := h.2 c_30
  refine lv_iconst (v := 0) hx hb dL_law_270 (by decide) ?_
  exact absurd h id
def wp_L_law_333 (xs : Nat → Int32) (i : Nat) (N : XV → MV → OV → Prop) (vX : XV) (vM : MV) (vO : OV) : Prop := N vX vM vO
set_option maxHeartbeats 4000000 in
set_option maxRecDepth 100000 in
theorem k_L_law_333 {p : Program} {l : Launch} {e : Env} {s : State} {m : MethodId} {below : List Frame} {meth : Method} {c : Code} {args : Array Value} {D : va_G} {t : T3} {A : Nat → Prop} {Z : State → Prop} {b L i : Nat} {xs : Nat → Int32} (X : Cx p s m meth c args cL_law 9 (some .boolean) RL wsL_law D t A) (hfl : l.stackTraces = false) (hL : L ≤ 2048) (hi : i + 4 ≤ L) (hX : va_X b L xs s s.heap) (hbl : b < s.heap.size) (hbA : ¬ A b) (aX : XA) (aM : MA) (aO : Nat) {N : XV → MV → OV → Prop} (hN : ∀ (vX : XV) (vM : MV) (vO : OV) (H : Heap) (locs : List Loc) (ls : Array Slot), N vX vM vO → Wd D A s.heap (xW t aX vX ++ (mW t aM vM ++ (oW t aO vO))) H locs → lv_has ls 9 [(0, .ref b), (1, .ref (XA.o aX)), (2, .ref (MA.o aM)), (3, .ref aO), (4, .int (nI i))] → W p l e room_1 s m args below meth c H locs (100 + i + 4) (3000 + 6 * i + 24) Z (F0 m 1385 ls [])) : ∀ (vX : XV) (vM : MV) (vO : OV) (H : Heap) (locs : List Loc) (ls : Array Slot), wp_L_law_333 xs i N vX vM vO → Wd D A s.heap (xW t aX vX ++ (mW t aM vM ++ (oW t aO vO))) H locs → lv_has ls 9 [(0, .ref b), (1, .ref (XA.o aX)), (2, .ref (MA.o aM)), (3, .ref aO), (4, .int (nI i))] → W p l e room_1 s m args below meth c H locs (100 + i + 1) (3000 + 6 * i + 6) Z (F0 m 333 ls []) := by
  intro vX vM vO H locs ls h hw hl
  have hx := X.1.1
  have hb := X.1.2.1
  refine lv_goto (tgt := 1385) hx hb dL_law_333 (by decide) ?_
  refine W.widen (k := 100 + i + 4) (n := 3000 + 6 * i + 24) (by omega) (by omega) ?_
  exact hN _ _ _ _ _ _ h hw hl
def wp_L_law_292 (xs : Nat → Int32) (i : Nat) (N : XV → MV → OV → Prop) (vX : XV) (vM : MV) (vO : OV) : Prop := wp_L_dropTile vX vO  (fun (r_34 : Int32) (vX_32 : XV) (vO_33 : OV) => wp_X7_dropTile vM  (fun (r_36 : Int32) (vM_35 : MV) => wp_X7_thrown vM_35  (fun (r_38 : Int32) (vM_37 : MV) => (r_38 = r_34 → (¬ r_34 = 0 → wp_L_law_333 xs i N vX_32 vM_37 vO_33) ∧ (r_34 = 0 → ((lg_cmp (vO_33 0) (Int32.toInt64 r_36)) = 0 → wp_L_law_333 xs i N vX_32 vM_37 vO_33) ∧ (¬ (lg_cmp (vO_33 0) (Int32.toInt64 r_36)) = 0 → False))) ∧ (¬ r_38 = r_34 → False))))
set_option maxHeartbeats 4000000 in
set_option maxRecDepth 100000 in
theorem k_L_law_292 {p : Program} {l : Launch} {e : Env} {s : State} {m : MethodId} {below : List Frame} {meth : Method} {c : Code} {args : Array Value} {D : va_G} {t : T3} {A : Nat → Prop} {Z : State → Prop} {b L i : Nat} {xs : Nat → Int32} (X : Cx p s m meth c args cL_law 9 (some .boolean) RL wsL_law D t A) (hfl : l.stackTraces = false) (hL : L ≤ 2048) (hi : i + 4 ≤ L) (hX : va_X b L xs s s.heap) (hbl : b < s.heap.size) (hbA : ¬ A b) (aX : XA) (aM : MA) (aO : Nat) {N : XV → MV → OV → Prop} (hN : ∀ (vX : XV) (vM : MV) (vO : OV) (H : Heap) (locs : List Loc) (ls : Array Slot), N vX vM vO → Wd D A s.heap (xW t aX vX ++ (mW t aM vM ++ (oW t aO vO))) H locs → lv_has ls 9 [(0, .ref b), (1, .ref (XA.o aX)), (2, .ref (MA.o aM)), (3, .ref aO), (4, .int (nI i))] → W p l e room_1 s m args below meth c H locs (100 + i + 4) (3000 + 6 * i + 24) Z (F0 m 1385 ls [])) : ∀ (vX : XV) (vM : MV) (vO : OV) (H : Heap) (locs : List Loc) (ls : Array Slot), wp_L_law_292 xs i N vX vM vO → Wd D A s.heap (xW t aX vX ++ (mW t aM vM ++ (oW t aO vO))) H locs → lv_has ls 9 [(0, .ref b), (1, .ref (XA.o aX)), (2, .ref (MA.o aM)), (3, .ref aO), (4, .int (nI i))] → W p l e room_1 s m args below meth c H locs (100 + i) (3000 + 6 * i) Z (F0 m 292 ls []) := by
  intro vX vM vO H locs ls h hw hl
  have hx := X.1.1
  have hb := X.1.2.1
  refine lv_aload_n hx hb dL_law_292 rfl (lv_at hl 1 rfl) ?_
  refine lv_aload_n hx hb dL_law_293 rfl (lv_at hl 3 rfl) ?_
  refine r_ci X hw (pm_2 (pm_l pm_0) (pm_r (pm_r pm_0))) (wn := fun (u : XV × OV) => (xW t aX u.1 ++ (mW t aM vM ++ (oW t aO u.2)))) (fun u => (pm_2 (pm_l pm_0) (pm_r (pm_r pm_0))).symm) (r_runSW X hw (c_L_dropTile l D t aX aO vX vO _ hfl h) (pm_2 (pm_l pm_0) (pm_r (pm_r pm_0))) (vx_cwSW 2 X.1.2.2.2.2 gL_law_L_dropTile rfl rfl rfl (by decide +kernel) ⟨Nat.le_of_ble_eq_true rfl, Nat.le_of_ble_eq_true rfl⟩) rfl hl rfl (Nat.le_of_ble_eq_true rfl) dL_law_294 ⟨by show 100 + i + 0 + 1 ≤ 601024; omega, by show 3000 + 6 * i + 0 + 6 ≤ 7293034; omega⟩) (fun r_34 u H locs h hw => ?_)
  obtain ⟨vX_32, vO_33⟩ := u
  refine lv_istore (lv' := [(5, .int r_34), (0, .ref b), (1, .ref (XA.o aX)), (2, .ref (MA.o aM)), (3, .ref aO), (4, .int (nI i))]) hx hb dL_law_297 hl (by decide) rfl (fun ls hl => ?_)
  refine lv_aload_n hx hb dL_law_299 rfl (lv_at hl 3 rfl) ?_
  refine r_ci X hw (pm_r (pm_l pm_0)) (wn := fun (u : MV) => (xW t aX vX_32 ++ (mW t aM u ++ (oW t aO vO_33)))) (fun u => (pm_r (pm_l pm_0)).symm) (r_runV X hw (c_X7_dropTile l D t aM vM _ h) (pm_r (pm_l pm_0)) (cwV 0 X.1.2.2.2.2 gL_law_X7_dropTile rfl rfl rfl (by decide +kernel) ⟨Nat.le_of_ble_eq_true rfl, Nat.le_of_ble_eq_true rfl⟩) (ci := 7) rfl rfl rfl rfl hl rfl (Nat.le_of_ble_eq_true rfl) dL_law_300 ⟨by show 100 + i + 1 + 0 ≤ 601024; omega, by show 3000 + 6 * i + 6 + 0 ≤ 7293034; omega⟩) (fun r_36 u H locs h hw => ?_)
  obtain ⟨vM_35, rfl⟩ : ∃ z, z = u := ⟨_, rfl⟩
  refine lv_istore (lv' := [(6, .int r_36), (5, .int r_34), (0, .ref b), (1, .ref (XA.o aX)), (2, .ref (MA.o aM)), (3, .ref aO), (4, .int (nI i))]) hx hb dL_law_303 hl (by decide) rfl (fun ls hl => ?_)
  refine lv_aload_n hx hb dL_law_305 rfl (lv_at hl 4 rfl) ?_
  refine r_ci X hw (pm_r (pm_l pm_0)) (wn := fun (u : MV) => (xW t aX vX_32 ++ (mW t aM u ++ (oW t aO vO_33)))) (fun u => (pm_r (pm_l pm_0)).symm) (r_runV X hw (c_X7_thrown l D t aM vM_35 _ h) (pm_r (pm_l pm_0)) (cwV 0 X.1.2.2.2.2 gL_law_X7_thrown rfl rfl rfl (by decide +kernel) ⟨Nat.le_of_ble_eq_true rfl, Nat.le_of_ble_eq_true rfl⟩) (ci := 7) rfl rfl rfl rfl hl rfl (Nat.le_of_ble_eq_true rfl) dL_law_306 ⟨by show 100 + i + 1 + 0 ≤ 601024; omega, by show 3000 + 6 * i + 6 + 0 ≤ 7293034; omega⟩) (fun r_38 u H locs h hw => ?_)
  obtain ⟨vM_37, rfl⟩ : ∃ z, z = u := ⟨_, rfl⟩
  refine lv_iload hx hb dL_law_309 (lv_at hl 1 rfl) ?_
  refine lv_icmp_eq (tgt := 316) hx hb dL_law_311 (by decide) (fun c_41 => ?_) (fun c_41 => ?_)
  · replace h := h.1 c_41
    refine lv_iload hx hb dL_law_316 (lv_at hl 1 rfl) ?_
    refine lv_if_ne (tgt := 333) hx hb dL_law_318 (by decide) (fun c_40 => ?_) (fun c_40 => ?_)
    · replace h := h.1 c_40
      exact k_L_law_333 X hfl hL hi hX hbl hbA aX aM aO hN _ _ _ _ _ _ h hw (lv_sub hl [2, 3, 4, 5, 6] rfl)
    replace h := h.2 c_40
    refine lv_aload_n hx hb dL_law_321 rfl (lv_at hl 5 rfl) ?_
    refine lv_iconst (v := 0) hx hb dL_law_322 (by decide) ?_
    refine r_lald (v := (vO_33 0)) X hw 69 rfl (vpl rfl) rfl dL_law_323 ?_
    refine lv_iload hx hb dL_law_324 (lv_at hl 0 rfl) ?_
    refine lv_i2l (v := Int32.toInt64 r_36) hx hb dL_law_326 rfl ?_
    refine W.lcmp hx hb dL_law_327 ?_
    refine lv_if_eq (tgt := 333) hx hb dL_law_328 (by decide) (fun c_39 => ?_) (fun c_39 => ?_)
    · replace h := h.1 c_39
      exact k_L_law_333 X hfl hL hi hX hbl hbA aX aM aO hN _ _ _ _ _ _ h hw (lv_sub hl [2, 3, 4, 5, 6] rfl)
    replace h := h.2 c_39
    refine lv_iconst (v := 0) hx hb dL_law_331 (by decide) ?_
    exact absurd h id
  replace h := h.2 c_41
  refine lv_iconst (v := 0) hx hb dL_law_314 (by decide) ?_
  exact absurd h id
def wp_L_law_389 (xs : Nat → Int32) (i : Nat) (N : XV → MV → OV → Prop) (vX : XV) (vM : MV) (vO : OV) : Prop := N vX vM vO
set_option maxHeartbeats 4000000 in
set_option maxRecDepth 100000 in
theorem k_L_law_389 {p : Program} {l : Launch} {e : Env} {s : State} {m : MethodId} {below : List Frame} {meth : Method} {c : Code} {args : Array Value} {D : va_G} {t : T3} {A : Nat → Prop} {Z : State → Prop} {b L i : Nat} {xs : Nat → Int32} (X : Cx p s m meth c args cL_law 9 (some .boolean) RL wsL_law D t A) (hfl : l.stackTraces = false) (hL : L ≤ 2048) (hi : i + 4 ≤ L) (hX : va_X b L xs s s.heap) (hbl : b < s.heap.size) (hbA : ¬ A b) (aX : XA) (aM : MA) (aO : Nat) {N : XV → MV → OV → Prop} (hN : ∀ (vX : XV) (vM : MV) (vO : OV) (H : Heap) (locs : List Loc) (ls : Array Slot), N vX vM vO → Wd D A s.heap (xW t aX vX ++ (mW t aM vM ++ (oW t aO vO))) H locs → lv_has ls 9 [(0, .ref b), (1, .ref (XA.o aX)), (2, .ref (MA.o aM)), (3, .ref aO), (4, .int (nI i))] → W p l e room_1 s m args below meth c H locs (100 + i + 4) (3000 + 6 * i + 24) Z (F0 m 1385 ls [])) : ∀ (vX : XV) (vM : MV) (vO : OV) (H : Heap) (locs : List Loc) (ls : Array Slot), wp_L_law_389 xs i N vX vM vO → Wd D A s.heap (xW t aX vX ++ (mW t aM vM ++ (oW t aO vO))) H locs → lv_has ls 9 [(0, .ref b), (1, .ref (XA.o aX)), (2, .ref (MA.o aM)), (3, .ref aO), (4, .int (nI i))] → W p l e room_1 s m args below meth c H locs (100 + i + 1) (3000 + 6 * i + 6) Z (F0 m 389 ls []) := by
  intro vX vM vO H locs ls h hw hl
  have hx := X.1.1
  have hb := X.1.2.1
  refine lv_goto (tgt := 1385) hx hb dL_law_389 (by decide) ?_
  refine W.widen (k := 100 + i + 4) (n := 3000 + 6 * i + 24) (by omega) (by omega) ?_
  exact hN _ _ _ _ _ _ h hw hl
def wp_L_law_336 (xs : Nat → Int32) (i : Nat) (N : XV → MV → OV → Prop) (vX : XV) (vM : MV) (vO : OV) : Prop := wp_L_setRule vX vO (xs (i + 1)) (fun (r_46 : Int32) (vX_44 : XV) (vO_45 : OV) => wp_X7_setRule vM (xs (i + 1)) (fun (r_49 : Int32) (vM_48 : MV) => wp_X7_thrown vM_48  (fun (r_51 : Int32) (vM_50 : MV) => (r_51 = r_46 → (¬ r_46 = 0 → wp_L_law_389 xs i N vX_44 vM_50 vO_45) ∧ (r_46 = 0 → ((lg_cmp (vO_45 0) (Int32.toInt64 r_49)) = 0 → wp_L_law_389 xs i N vX_44 vM_50 vO_45) ∧ (¬ (lg_cmp (vO_45 0) (Int32.toInt64 r_49)) = 0 → False))) ∧ (¬ r_51 = r_46 → False))))
set_option maxHeartbeats 4000000 in
set_option maxRecDepth 100000 in
theorem k_L_law_336 {p : Program} {l : Launch} {e : Env} {s : State} {m : MethodId} {below : List Frame} {meth : Method} {c : Code} {args : Array Value} {D : va_G} {t : T3} {A : Nat → Prop} {Z : State → Prop} {b L i : Nat} {xs : Nat → Int32} (X : Cx p s m meth c args cL_law 9 (some .boolean) RL wsL_law D t A) (hfl : l.stackTraces = false) (hL : L ≤ 2048) (hi : i + 4 ≤ L) (hX : va_X b L xs s s.heap) (hbl : b < s.heap.size) (hbA : ¬ A b) (aX : XA) (aM : MA) (aO : Nat) {N : XV → MV → OV → Prop} (hN : ∀ (vX : XV) (vM : MV) (vO : OV) (H : Heap) (locs : List Loc) (ls : Array Slot), N vX vM vO → Wd D A s.heap (xW t aX vX ++ (mW t aM vM ++ (oW t aO vO))) H locs → lv_has ls 9 [(0, .ref b), (1, .ref (XA.o aX)), (2, .ref (MA.o aM)), (3, .ref aO), (4, .int (nI i))] → W p l e room_1 s m args below meth c H locs (100 + i + 4) (3000 + 6 * i + 24) Z (F0 m 1385 ls [])) : ∀ (vX : XV) (vM : MV) (vO : OV) (H : Heap) (locs : List Loc) (ls : Array Slot), wp_L_law_336 xs i N vX vM vO → Wd D A s.heap (xW t aX vX ++ (mW t aM vM ++ (oW t aO vO))) H locs → lv_has ls 9 [(0, .ref b), (1, .ref (XA.o aX)), (2, .ref (MA.o aM)), (3, .ref aO), (4, .int (nI i))] → W p l e room_1 s m args below meth c H locs (100 + i) (3000 + 6 * i) Z (F0 m 336 ls []) := by
  intro vX vM vO H locs ls h hw hl
  have hx := X.1.1
  have hb := X.1.2.1
  refine lv_aload_n hx hb dL_law_336 rfl (lv_at hl 1 rfl) ?_
  refine lv_aload_n hx hb dL_law_337 rfl (lv_at hl 0 rfl) ?_
  refine lv_iload hx hb dL_law_338 (lv_at hl 4 rfl) ?_
  refine lv_iconst (v := 1) hx hb dL_law_340 (by decide) ?_
  refine lv_iadd hx hb dL_law_341 ?_
  refine lv_topi (fun q_43 eq_43 => ?_)
  obtain rfl : q_43 = nI (i + 1) := eq_43.trans (nI_p1 i)
  refine r_sld X hw hX hbl hbA hL (j := (i + 1)) (by omega) dL_law_342 ?_
  refine lv_aload_n hx hb dL_law_343 rfl (lv_at hl 3 rfl) ?_
  refine r_ci X hw (pm_2 (pm_l pm_0) (pm_r (pm_r pm_0))) (wn := fun (u : XV × OV) => (xW t aX u.1 ++ (mW t aM vM ++ (oW t aO u.2)))) (fun u => (pm_2 (pm_l pm_0) (pm_r (pm_r pm_0))).symm) (r_runSW X hw (c_L_setRule l D t aX aO vX vO (xs (i + 1)) _ hfl h) (pm_2 (pm_l pm_0) (pm_r (pm_r pm_0))) (vx_cwSW 3 X.1.2.2.2.2 gL_law_L_setRule rfl rfl rfl (by decide +kernel) ⟨Nat.le_of_ble_eq_true rfl, Nat.le_of_ble_eq_true rfl⟩) rfl hl rfl (Nat.le_of_ble_eq_true rfl) dL_law_344 ⟨by show 100 + i + 0 + 1 ≤ 601024; omega, by show 3000 + 6 * i + 0 + 6 ≤ 7293034; omega⟩) (fun r_46 u H locs h hw => ?_)
  obtain ⟨vX_44, vO_45⟩ := u
  refine lv_istore (lv' := [(5, .int r_46), (0, .ref b), (1, .ref (XA.o aX)), (2, .ref (MA.o aM)), (3, .ref aO), (4, .int (nI i))]) hx hb dL_law_347 hl (by decide) rfl (fun ls hl => ?_)
  refine lv_aload_n hx hb dL_law_349 rfl (lv_at hl 3 rfl) ?_
  refine lv_aload_n hx hb dL_law_350 rfl (lv_at hl 1 rfl) ?_
  refine lv_iload hx hb dL_law_351 (lv_at hl 5 rfl) ?_
  refine lv_iconst (v := 1) hx hb dL_law_353 (by decide) ?_
  refine lv_iadd hx hb dL_law_354 ?_
  refine lv_topi (fun q_47 eq_47 => ?_)
  obtain rfl : q_47 = nI (i + 1) := eq_47.trans (nI_p1 i)
  refine r_sld X hw hX hbl hbA hL (j := (i + 1)) (by omega) dL_law_355 ?_
  refine r_ci X hw (pm_r (pm_l pm_0)) (wn := fun (u : MV) => (xW t aX vX_44 ++ (mW t aM u ++ (oW t aO vO_45)))) (fun u => (pm_r (pm_l pm_0)).symm) (r_runV X hw (c_X7_setRule l D t aM vM (xs (i + 1)) _ h) (pm_r (pm_l pm_0)) (cwV 1 X.1.2.2.2.2 gL_law_X7_setRule rfl rfl rfl (by decide +kernel) ⟨Nat.le_of_ble_eq_true rfl, Nat.le_of_ble_eq_true rfl⟩) (ci := 7) rfl rfl rfl rfl hl rfl (Nat.le_of_ble_eq_true rfl) dL_law_356 ⟨by show 100 + i + 1 + 0 ≤ 601024; omega, by show 3000 + 6 * i + 6 + 0 ≤ 7293034; omega⟩) (fun r_49 u H locs h hw => ?_)
  obtain ⟨vM_48, rfl⟩ : ∃ z, z = u := ⟨_, rfl⟩
  refine lv_istore (lv' := [(6, .int r_49), (5, .int r_46), (0, .ref b), (1, .ref (XA.o aX)), (2, .ref (MA.o aM)), (3, .ref aO), (4, .int (nI i))]) hx hb dL_law_359 hl (by decide) rfl (fun ls hl => ?_)
  refine lv_aload_n hx hb dL_law_361 rfl (lv_at hl 4 rfl) ?_
  refine r_ci X hw (pm_r (pm_l pm_0)) (wn := fun (u : MV) => (xW t aX vX_44 ++ (mW t aM u ++ (oW t aO vO_45)))) (fun u => (pm_r (pm_l pm_0)).symm) (r_runV X hw (c_X7_thrown l D t aM vM_48 _ h) (pm_r (pm_l pm_0)) (cwV 0 X.1.2.2.2.2 gL_law_X7_thrown rfl rfl rfl (by decide +kernel) ⟨Nat.le_of_ble_eq_true rfl, Nat.le_of_ble_eq_true rfl⟩) (ci := 7) rfl rfl rfl rfl hl rfl (Nat.le_of_ble_eq_true rfl) dL_law_362 ⟨by show 100 + i + 1 + 0 ≤ 601024; omega, by show 3000 + 6 * i + 6 + 0 ≤ 7293034; omega⟩) (fun r_51 u H locs h hw => ?_)
  obtain ⟨vM_50, rfl⟩ : ∃ z, z = u := ⟨_, rfl⟩
  refine lv_iload hx hb dL_law_365 (lv_at hl 1 rfl) ?_
  refine lv_icmp_eq (tgt := 372) hx hb dL_law_367 (by decide) (fun c_54 => ?_) (fun c_54 => ?_)
  · replace h := h.1 c_54
    refine lv_iload hx hb dL_law_372 (lv_at hl 1 rfl) ?_
    refine lv_if_ne (tgt := 389) hx hb dL_law_374 (by decide) (fun c_53 => ?_) (fun c_53 => ?_)
    · replace h := h.1 c_53
      exact k_L_law_389 X hfl hL hi hX hbl hbA aX aM aO hN _ _ _ _ _ _ h hw (lv_sub hl [2, 3, 4, 5, 6] rfl)
    replace h := h.2 c_53
    refine lv_aload_n hx hb dL_law_377 rfl (lv_at hl 5 rfl) ?_
    refine lv_iconst (v := 0) hx hb dL_law_378 (by decide) ?_
    refine r_lald (v := (vO_45 0)) X hw 69 rfl (vpl rfl) rfl dL_law_379 ?_
    refine lv_iload hx hb dL_law_380 (lv_at hl 0 rfl) ?_
    refine lv_i2l (v := Int32.toInt64 r_49) hx hb dL_law_382 rfl ?_
    refine W.lcmp hx hb dL_law_383 ?_
    refine lv_if_eq (tgt := 389) hx hb dL_law_384 (by decide) (fun c_52 => ?_) (fun c_52 => ?_)
    · replace h := h.1 c_52
      exact k_L_law_389 X hfl hL hi hX hbl hbA aX aM aO hN _ _ _ _ _ _ h hw (lv_sub hl [2, 3, 4, 5, 6] rfl)
    replace h := h.2 c_52
    refine lv_iconst (v := 0) hx hb dL_law_387 (by decide) ?_
    exact absurd h id
  replace h := h.2 c_54
  refine lv_iconst (v := 0) hx hb dL_law_370 (by decide) ?_
  exact absurd h id
def wp_L_law_457 (xs : Nat → Int32) (i : Nat) (N : XV → MV → OV → Prop) (vX : XV) (vM : MV) (vO : OV) : Prop := N vX vM vO
set_option maxHeartbeats 4000000 in
set_option maxRecDepth 100000 in
theorem k_L_law_457 {p : Program} {l : Launch} {e : Env} {s : State} {m : MethodId} {below : List Frame} {meth : Method} {c : Code} {args : Array Value} {D : va_G} {t : T3} {A : Nat → Prop} {Z : State → Prop} {b L i : Nat} {xs : Nat → Int32} (X : Cx p s m meth c args cL_law 9 (some .boolean) RL wsL_law D t A) (hfl : l.stackTraces = false) (hL : L ≤ 2048) (hi : i + 4 ≤ L) (hX : va_X b L xs s s.heap) (hbl : b < s.heap.size) (hbA : ¬ A b) (aX : XA) (aM : MA) (aO : Nat) {N : XV → MV → OV → Prop} (hN : ∀ (vX : XV) (vM : MV) (vO : OV) (H : Heap) (locs : List Loc) (ls : Array Slot), N vX vM vO → Wd D A s.heap (xW t aX vX ++ (mW t aM vM ++ (oW t aO vO))) H locs → lv_has ls 9 [(0, .ref b), (1, .ref (XA.o aX)), (2, .ref (MA.o aM)), (3, .ref aO), (4, .int (nI i))] → W p l e room_1 s m args below meth c H locs (100 + i + 4) (3000 + 6 * i + 24) Z (F0 m 1385 ls [])) : ∀ (vX : XV) (vM : MV) (vO : OV) (H : Heap) (locs : List Loc) (ls : Array Slot), wp_L_law_457 xs i N vX vM vO → Wd D A s.heap (xW t aX vX ++ (mW t aM vM ++ (oW t aO vO))) H locs → lv_has ls 9 [(0, .ref b), (1, .ref (XA.o aX)), (2, .ref (MA.o aM)), (3, .ref aO), (4, .int (nI i))] → W p l e room_1 s m args below meth c H locs (100 + i + 1) (3000 + 6 * i + 6) Z (F0 m 457 ls []) := by
  intro vX vM vO H locs ls h hw hl
  have hx := X.1.1
  have hb := X.1.2.1
  refine lv_goto (tgt := 1385) hx hb dL_law_457 (by decide) ?_
  refine W.widen (k := 100 + i + 4) (n := 3000 + 6 * i + 24) (by omega) (by omega) ?_
  exact hN _ _ _ _ _ _ h hw hl
def wp_L_law_392 (xs : Nat → Int32) (i : Nat) (N : XV → MV → OV → Prop) (vX : XV) (vM : MV) (vO : OV) : Prop := wp_L_cut vX vO (xs (i + 1)) (xs (i + 2)) (fun (r_60 : Int32) (vX_58 : XV) (vO_59 : OV) => wp_X7_cut vM (xs (i + 1)) (xs (i + 2)) (fun (r_64 : Int32) (vM_63 : MV) => wp_X7_thrown vM_63  (fun (r_66 : Int32) (vM_65 : MV) => (r_66 = r_60 → (¬ r_60 = 0 → wp_L_law_457 xs i N vX_58 vM_65 vO_59) ∧ (r_60 = 0 → ((lg_cmp (vO_59 0) (Int32.toInt64 r_64)) = 0 → wp_L_law_457 xs i N vX_58 vM_65 vO_59) ∧ (¬ (lg_cmp (vO_59 0) (Int32.toInt64 r_64)) = 0 → False))) ∧ (¬ r_66 = r_60 → False))))
set_option maxHeartbeats 4000000 in
set_option maxRecDepth 100000 in
theorem k_L_law_392 {p : Program} {l : Launch} {e : Env} {s : State} {m : MethodId} {below : List Frame} {meth : Method} {c : Code} {args : Array Value} {D : va_G} {t : T3} {A : Nat → Prop} {Z : State → Prop} {b L i : Nat} {xs : Nat → Int32} (X : Cx p s m meth c args cL_law 9 (some .boolean) RL wsL_law D t A) (hfl : l.stackTraces = false) (hL : L ≤ 2048) (hi : i + 4 ≤ L) (hX : va_X b L xs s s.heap) (hbl : b < s.heap.size) (hbA : ¬ A b) (aX : XA) (aM : MA) (aO : Nat) {N : XV → MV → OV → Prop} (hN : ∀ (vX : XV) (vM : MV) (vO : OV) (H : Heap) (locs : List Loc) (ls : Array Slot), N vX vM vO → Wd D A s.heap (xW t aX vX ++ (mW t aM vM ++ (oW t aO vO))) H locs → lv_has ls 9 [(0, .ref b), (1, .ref (XA.o aX)), (2, .ref (MA.o aM)), (3, .ref aO), (4, .int (nI i))] → W p l e room_1 s m args below meth c H locs (100 + i + 4) (3000 + 6 * i + 24) Z (F0 m 1385 ls [])) : ∀ (vX : XV) (vM : MV) (vO : OV) (H : Heap) (locs : List Loc) (ls : Array Slot), wp_L_law_392 xs i N vX vM vO → Wd D A s.heap (xW t aX vX ++ (mW t aM vM ++ (oW t aO vO))) H locs → lv_has ls 9 [(0, .ref b), (1, .ref (XA.o aX)), (2, .ref (MA.o aM)), (3, .ref aO), (4, .int (nI i))] → W p l e room_1 s m args below meth c H locs (100 + i) (3000 + 6 * i) Z (F0 m 392 ls []) := by
  intro vX vM vO H locs ls h hw hl
  have hx := X.1.1
  have hb := X.1.2.1
  refine lv_aload_n hx hb dL_law_392 rfl (lv_at hl 1 rfl) ?_
  refine lv_aload_n hx hb dL_law_393 rfl (lv_at hl 0 rfl) ?_
  refine lv_iload hx hb dL_law_394 (lv_at hl 4 rfl) ?_
  refine lv_iconst (v := 1) hx hb dL_law_396 (by decide) ?_
  refine lv_iadd hx hb dL_law_397 ?_
  refine lv_topi (fun q_56 eq_56 => ?_)
  obtain rfl : q_56 = nI (i + 1) := eq_56.trans (nI_p1 i)
  refine r_sld X hw hX hbl hbA hL (j := (i + 1)) (by omega) dL_law_398 ?_
  refine lv_aload_n hx hb dL_law_399 rfl (lv_at hl 0 rfl) ?_
  refine lv_iload hx hb dL_law_400 (lv_at hl 4 rfl) ?_
  refine lv_iconst (v := 2) hx hb dL_law_402 (by decide) ?_
  refine lv_iadd hx hb dL_law_403 ?_
  refine lv_topi (fun q_57 eq_57 => ?_)
  obtain rfl : q_57 = nI (i + 2) := eq_57.trans (nI_p2 i)
  refine r_sld X hw hX hbl hbA hL (j := (i + 2)) (by omega) dL_law_404 ?_
  refine lv_aload_n hx hb dL_law_405 rfl (lv_at hl 3 rfl) ?_
  refine r_ci X hw (pm_2 (pm_l pm_0) (pm_r (pm_r pm_0))) (wn := fun (u : XV × OV) => (xW t aX u.1 ++ (mW t aM vM ++ (oW t aO u.2)))) (fun u => (pm_2 (pm_l pm_0) (pm_r (pm_r pm_0))).symm) (r_runSW X hw (c_L_cut l D t aX aO vX vO (xs (i + 1)) (xs (i + 2)) _ hfl h) (pm_2 (pm_l pm_0) (pm_r (pm_r pm_0))) (vx_cwSW 4 X.1.2.2.2.2 gL_law_L_cut rfl rfl rfl (by decide +kernel) ⟨Nat.le_of_ble_eq_true rfl, Nat.le_of_ble_eq_true rfl⟩) rfl hl rfl (Nat.le_of_ble_eq_true rfl) dL_law_406 ⟨by show 100 + i + 0 + 1 ≤ 601024; omega, by show 3000 + 6 * i + 0 + 6 ≤ 7293034; omega⟩) (fun r_60 u H locs h hw => ?_)
  obtain ⟨vX_58, vO_59⟩ := u
  refine lv_istore (lv' := [(5, .int r_60), (0, .ref b), (1, .ref (XA.o aX)), (2, .ref (MA.o aM)), (3, .ref aO), (4, .int (nI i))]) hx hb dL_law_409 hl (by decide) rfl (fun ls hl => ?_)
  refine lv_aload_n hx hb dL_law_411 rfl (lv_at hl 3 rfl) ?_
  refine lv_aload_n hx hb dL_law_412 rfl (lv_at hl 1 rfl) ?_
  refine lv_iload hx hb dL_law_413 (lv_at hl 5 rfl) ?_
  refine lv_iconst (v := 1) hx hb dL_law_415 (by decide) ?_
  refine lv_iadd hx hb dL_law_416 ?_
  refine lv_topi (fun q_61 eq_61 => ?_)
  obtain rfl : q_61 = nI (i + 1) := eq_61.trans (nI_p1 i)
  refine r_sld X hw hX hbl hbA hL (j := (i + 1)) (by omega) dL_law_417 ?_
  refine lv_aload_n hx hb dL_law_418 rfl (lv_at hl 1 rfl) ?_
  refine lv_iload hx hb dL_law_419 (lv_at hl 5 rfl) ?_
  refine lv_iconst (v := 2) hx hb dL_law_421 (by decide) ?_
  refine lv_iadd hx hb dL_law_422 ?_
  refine lv_topi (fun q_62 eq_62 => ?_)
  obtain rfl : q_62 = nI (i + 2) := eq_62.trans (nI_p2 i)
  refine r_sld X hw hX hbl hbA hL (j := (i + 2)) (by omega) dL_law_423 ?_
  refine r_ci X hw (pm_r (pm_l pm_0)) (wn := fun (u : MV) => (xW t aX vX_58 ++ (mW t aM u ++ (oW t aO vO_59)))) (fun u => (pm_r (pm_l pm_0)).symm) (r_runV X hw (c_X7_cut l D t aM vM (xs (i + 1)) (xs (i + 2)) _ h) (pm_r (pm_l pm_0)) (cwV 2 X.1.2.2.2.2 gL_law_X7_cut rfl rfl rfl (by decide +kernel) ⟨Nat.le_of_ble_eq_true rfl, Nat.le_of_ble_eq_true rfl⟩) (ci := 7) rfl rfl rfl rfl hl rfl (Nat.le_of_ble_eq_true rfl) dL_law_424 ⟨by show 100 + i + 1 + 0 ≤ 601024; omega, by show 3000 + 6 * i + 6 + 0 ≤ 7293034; omega⟩) (fun r_64 u H locs h hw => ?_)
  obtain ⟨vM_63, rfl⟩ : ∃ z, z = u := ⟨_, rfl⟩
  refine lv_istore (lv' := [(6, .int r_64), (5, .int r_60), (0, .ref b), (1, .ref (XA.o aX)), (2, .ref (MA.o aM)), (3, .ref aO), (4, .int (nI i))]) hx hb dL_law_427 hl (by decide) rfl (fun ls hl => ?_)
  refine lv_aload_n hx hb dL_law_429 rfl (lv_at hl 4 rfl) ?_
  refine r_ci X hw (pm_r (pm_l pm_0)) (wn := fun (u : MV) => (xW t aX vX_58 ++ (mW t aM u ++ (oW t aO vO_59)))) (fun u => (pm_r (pm_l pm_0)).symm) (r_runV X hw (c_X7_thrown l D t aM vM_63 _ h) (pm_r (pm_l pm_0)) (cwV 0 X.1.2.2.2.2 gL_law_X7_thrown rfl rfl rfl (by decide +kernel) ⟨Nat.le_of_ble_eq_true rfl, Nat.le_of_ble_eq_true rfl⟩) (ci := 7) rfl rfl rfl rfl hl rfl (Nat.le_of_ble_eq_true rfl) dL_law_430 ⟨by show 100 + i + 1 + 0 ≤ 601024; omega, by show 3000 + 6 * i + 6 + 0 ≤ 7293034; omega⟩) (fun r_66 u H locs h hw => ?_)
  obtain ⟨vM_65, rfl⟩ : ∃ z, z = u := ⟨_, rfl⟩
  refine lv_iload hx hb dL_law_433 (lv_at hl 1 rfl) ?_
  refine lv_icmp_eq (tgt := 440) hx hb dL_law_435 (by decide) (fun c_69 => ?_) (fun c_69 => ?_)
  · replace h := h.1 c_69
    refine lv_iload hx hb dL_law_440 (lv_at hl 1 rfl) ?_
    refine lv_if_ne (tgt := 457) hx hb dL_law_442 (by decide) (fun c_68 => ?_) (fun c_68 => ?_)
    · replace h := h.1 c_68
      exact k_L_law_457 X hfl hL hi hX hbl hbA aX aM aO hN _ _ _ _ _ _ h hw (lv_sub hl [2, 3, 4, 5, 6] rfl)
    replace h := h.2 c_68
    refine lv_aload_n hx hb dL_law_445 rfl (lv_at hl 5 rfl) ?_
    refine lv_iconst (v := 0) hx hb dL_law_446 (by decide) ?_
    refine r_lald (v := (vO_59 0)) X hw 69 rfl (vpl rfl) rfl dL_law_447 ?_
    refine lv_iload hx hb dL_law_448 (lv_at hl 0 rfl) ?_
    refine lv_i2l (v := Int32.toInt64 r_64) hx hb dL_law_450 rfl ?_
    refine W.lcmp hx hb dL_law_451 ?_
    refine lv_if_eq (tgt := 457) hx hb dL_law_452 (by decide) (fun c_67 => ?_) (fun c_67 => ?_)
    · replace h := h.1 c_67
      exact k_L_law_457 X hfl hL hi hX hbl hbA aX aM aO hN _ _ _ _ _ _ h hw (lv_sub hl [2, 3, 4, 5, 6] rfl)
    replace h := h.2 c_67
    refine lv_iconst (v := 0) hx hb dL_law_455 (by decide) ?_
    exact absurd h id
  replace h := h.2 c_69
  refine lv_iconst (v := 0) hx hb dL_law_438 (by decide) ?_
  exact absurd h id
def wp_L_law_525 (xs : Nat → Int32) (i : Nat) (N : XV → MV → OV → Prop) (vX : XV) (vM : MV) (vO : OV) : Prop := N vX vM vO
set_option maxHeartbeats 4000000 in
set_option maxRecDepth 100000 in
theorem k_L_law_525 {p : Program} {l : Launch} {e : Env} {s : State} {m : MethodId} {below : List Frame} {meth : Method} {c : Code} {args : Array Value} {D : va_G} {t : T3} {A : Nat → Prop} {Z : State → Prop} {b L i : Nat} {xs : Nat → Int32} (X : Cx p s m meth c args cL_law 9 (some .boolean) RL wsL_law D t A) (hfl : l.stackTraces = false) (hL : L ≤ 2048) (hi : i + 4 ≤ L) (hX : va_X b L xs s s.heap) (hbl : b < s.heap.size) (hbA : ¬ A b) (aX : XA) (aM : MA) (aO : Nat) {N : XV → MV → OV → Prop} (hN : ∀ (vX : XV) (vM : MV) (vO : OV) (H : Heap) (locs : List Loc) (ls : Array Slot), N vX vM vO → Wd D A s.heap (xW t aX vX ++ (mW t aM vM ++ (oW t aO vO))) H locs → lv_has ls 9 [(0, .ref b), (1, .ref (XA.o aX)), (2, .ref (MA.o aM)), (3, .ref aO), (4, .int (nI i))] → W p l e room_1 s m args below meth c H locs (100 + i + 4) (3000 + 6 * i + 24) Z (F0 m 1385 ls [])) : ∀ (vX : XV) (vM : MV) (vO : OV) (H : Heap) (locs : List Loc) (ls : Array Slot), wp_L_law_525 xs i N vX vM vO → Wd D A s.heap (xW t aX vX ++ (mW t aM vM ++ (oW t aO vO))) H locs → lv_has ls 9 [(0, .ref b), (1, .ref (XA.o aX)), (2, .ref (MA.o aM)), (3, .ref aO), (4, .int (nI i))] → W p l e room_1 s m args below meth c H locs (100 + i + 3) (3000 + 6 * i + 18) Z (F0 m 525 ls []) := by
  intro vX vM vO H locs ls h hw hl
  have hx := X.1.1
  have hb := X.1.2.1
  refine lv_goto (tgt := 1385) hx hb dL_law_525 (by decide) ?_
  refine W.widen (k := 100 + i + 4) (n := 3000 + 6 * i + 24) (by omega) (by omega) ?_
  exact hN _ _ _ _ _ _ h hw hl
def wp_L_law_460 (xs : Nat → Int32) (i : Nat) (N : XV → MV → OV → Prop) (vX : XV) (vM : MV) (vO : OV) : Prop := wp_L_lay vX vO (xs (i + 1)) (xs (i + 2)) (fun (r_75 : Int32) (vX_73 : XV) (vO_74 : OV) => wp_X7_lay vM (xs (i + 1)) (xs (i + 2)) (fun (r_79 : Int32) (vM_78 : MV) => wp_X7_thrown vM_78  (fun (r_81 : Int32) (vM_80 : MV) => (r_81 = r_75 → (¬ r_75 = 0 → wp_L_law_525 xs i N vX_73 vM_80 vO_74) ∧ (r_75 = 0 → ((lg_cmp (vO_74 0) (Int32.toInt64 r_79)) = 0 → wp_L_law_525 xs i N vX_73 vM_80 vO_74) ∧ (¬ (lg_cmp (vO_74 0) (Int32.toInt64 r_79)) = 0 → False))) ∧ (¬ r_81 = r_75 → False))))
set_option maxHeartbeats 4000000 in
set_option maxRecDepth 100000 in
theorem k_L_law_460 {p : Program} {l : Launch} {e : Env} {s : State} {m : MethodId} {below : List Frame} {meth : Method} {c : Code} {args : Array Value} {D : va_G} {t : T3} {A : Nat → Prop} {Z : State → Prop} {b L i : Nat} {xs : Nat → Int32} (X : Cx p s m meth c args cL_law 9 (some .boolean) RL wsL_law D t A) (hfl : l.stackTraces = false) (hL : L ≤ 2048) (hi : i + 4 ≤ L) (hX : va_X b L xs s s.heap) (hbl : b < s.heap.size) (hbA : ¬ A b) (aX : XA) (aM : MA) (aO : Nat) {N : XV → MV → OV → Prop} (hN : ∀ (vX : XV) (vM : MV) (vO : OV) (H : Heap) (locs : List Loc) (ls : Array Slot), N vX vM vO → Wd D A s.heap (xW t aX vX ++ (mW t aM vM ++ (oW t aO vO))) H locs → lv_has ls 9 [(0, .ref b), (1, .ref (XA.o aX)), (2, .ref (MA.o aM)), (3, .ref aO), (4, .int (nI i))] → W p l e room_1 s m args below meth c H locs (100 + i + 4) (3000 + 6 * i + 24) Z (F0 m 1385 ls [])) : ∀ (vX : XV) (vM : MV) (vO : OV) (H : Heap) (locs : List Loc) (ls : Array Slot), wp_L_law_460 xs i N vX vM vO → Wd D A s.heap (xW t aX vX ++ (mW t aM vM ++ (oW t aO vO))) H locs → lv_has ls 9 [(0, .ref b), (1, .ref (XA.o aX)), (2, .ref (MA.o aM)), (3, .ref aO), (4, .int (nI i))] → W p l e room_1 s m args below meth c H locs (100 + i) (3000 + 6 * i) Z (F0 m 460 ls []) := by
  intro vX vM vO H locs ls h hw hl
  have hx := X.1.1
  have hb := X.1.2.1
  refine lv_aload_n hx hb dL_law_460 rfl (lv_at hl 1 rfl) ?_
  refine lv_aload_n hx hb dL_law_461 rfl (lv_at hl 0 rfl) ?_
  refine lv_iload hx hb dL_law_462 (lv_at hl 4 rfl) ?_
  refine lv_iconst (v := 1) hx hb dL_law_464 (by decide) ?_
  refine lv_iadd hx hb dL_law_465 ?_
  refine lv_topi (fun q_71 eq_71 => ?_)
  obtain rfl : q_71 = nI (i + 1) := eq_71.trans (nI_p1 i)
  refine r_sld X hw hX hbl hbA hL (j := (i + 1)) (by omega) dL_law_466 ?_
  refine lv_aload_n hx hb dL_law_467 rfl (lv_at hl 0 rfl) ?_
  refine lv_iload hx hb dL_law_468 (lv_at hl 4 rfl) ?_
  refine lv_iconst (v := 2) hx hb dL_law_470 (by decide) ?_
  refine lv_iadd hx hb dL_law_471 ?_
  refine lv_topi (fun q_72 eq_72 => ?_)
  obtain rfl : q_72 = nI (i + 2) := eq_72.trans (nI_p2 i)
  refine r_sld X hw hX hbl hbA hL (j := (i + 2)) (by omega) dL_law_472 ?_
  refine lv_aload_n hx hb dL_law_473 rfl (lv_at hl 3 rfl) ?_
  refine r_ci X hw (pm_2 (pm_l pm_0) (pm_r (pm_r pm_0))) (wn := fun (u : XV × OV) => (xW t aX u.1 ++ (mW t aM vM ++ (oW t aO u.2)))) (fun u => (pm_2 (pm_l pm_0) (pm_r (pm_r pm_0))).symm) (r_runSW X hw (c_L_lay l D t aX aO vX vO (xs (i + 1)) (xs (i + 2)) _ hfl h) (pm_2 (pm_l pm_0) (pm_r (pm_r pm_0))) (vx_cwSW 4 X.1.2.2.2.2 gL_law_L_lay rfl rfl rfl (by decide +kernel) ⟨Nat.le_of_ble_eq_true rfl, Nat.le_of_ble_eq_true rfl⟩) rfl hl rfl (Nat.le_of_ble_eq_true rfl) dL_law_474 ⟨by show 100 + i + 0 + 3 ≤ 601024; omega, by show 3000 + 6 * i + 0 + 18 ≤ 7293034; omega⟩) (fun r_75 u H locs h hw => ?_)
  obtain ⟨vX_73, vO_74⟩ := u
  refine lv_istore (lv' := [(5, .int r_75), (0, .ref b), (1, .ref (XA.o aX)), (2, .ref (MA.o aM)), (3, .ref aO), (4, .int (nI i))]) hx hb dL_law_477 hl (by decide) rfl (fun ls hl => ?_)
  refine lv_aload_n hx hb dL_law_479 rfl (lv_at hl 3 rfl) ?_
  refine lv_aload_n hx hb dL_law_480 rfl (lv_at hl 1 rfl) ?_
  refine lv_iload hx hb dL_law_481 (lv_at hl 5 rfl) ?_
  refine lv_iconst (v := 1) hx hb dL_law_483 (by decide) ?_
  refine lv_iadd hx hb dL_law_484 ?_
  refine lv_topi (fun q_76 eq_76 => ?_)
  obtain rfl : q_76 = nI (i + 1) := eq_76.trans (nI_p1 i)
  refine r_sld X hw hX hbl hbA hL (j := (i + 1)) (by omega) dL_law_485 ?_
  refine lv_aload_n hx hb dL_law_486 rfl (lv_at hl 1 rfl) ?_
  refine lv_iload hx hb dL_law_487 (lv_at hl 5 rfl) ?_
  refine lv_iconst (v := 2) hx hb dL_law_489 (by decide) ?_
  refine lv_iadd hx hb dL_law_490 ?_
  refine lv_topi (fun q_77 eq_77 => ?_)
  obtain rfl : q_77 = nI (i + 2) := eq_77.trans (nI_p2 i)
  refine r_sld X hw hX hbl hbA hL (j := (i + 2)) (by omega) dL_law_491 ?_
  refine r_ci X hw (pm_r (pm_l pm_0)) (wn := fun (u : MV) => (xW t aX vX_73 ++ (mW t aM u ++ (oW t aO vO_74)))) (fun u => (pm_r (pm_l pm_0)).symm) (r_runV X hw (c_X7_lay l D t aM vM (xs (i + 1)) (xs (i + 2)) _ h) (pm_r (pm_l pm_0)) (cwV 2 X.1.2.2.2.2 gL_law_X7_lay rfl rfl rfl (by decide +kernel) ⟨Nat.le_of_ble_eq_true rfl, Nat.le_of_ble_eq_true rfl⟩) (ci := 7) rfl rfl rfl rfl hl rfl (Nat.le_of_ble_eq_true rfl) dL_law_492 ⟨by show 100 + i + 3 + 0 ≤ 601024; omega, by show 3000 + 6 * i + 18 + 0 ≤ 7293034; omega⟩) (fun r_79 u H locs h hw => ?_)
  obtain ⟨vM_78, rfl⟩ : ∃ z, z = u := ⟨_, rfl⟩
  refine lv_istore (lv' := [(6, .int r_79), (5, .int r_75), (0, .ref b), (1, .ref (XA.o aX)), (2, .ref (MA.o aM)), (3, .ref aO), (4, .int (nI i))]) hx hb dL_law_495 hl (by decide) rfl (fun ls hl => ?_)
  refine lv_aload_n hx hb dL_law_497 rfl (lv_at hl 4 rfl) ?_
  refine r_ci X hw (pm_r (pm_l pm_0)) (wn := fun (u : MV) => (xW t aX vX_73 ++ (mW t aM u ++ (oW t aO vO_74)))) (fun u => (pm_r (pm_l pm_0)).symm) (r_runV X hw (c_X7_thrown l D t aM vM_78 _ h) (pm_r (pm_l pm_0)) (cwV 0 X.1.2.2.2.2 gL_law_X7_thrown rfl rfl rfl (by decide +kernel) ⟨Nat.le_of_ble_eq_true rfl, Nat.le_of_ble_eq_true rfl⟩) (ci := 7) rfl rfl rfl rfl hl rfl (Nat.le_of_ble_eq_true rfl) dL_law_498 ⟨by show 100 + i + 3 + 0 ≤ 601024; omega, by show 3000 + 6 * i + 18 + 0 ≤ 7293034; omega⟩) (fun r_81 u H locs h hw => ?_)
  obtain ⟨vM_80, rfl⟩ : ∃ z, z = u := ⟨_, rfl⟩
  refine lv_iload hx hb dL_law_501 (lv_at hl 1 rfl) ?_
  refine lv_icmp_eq (tgt := 508) hx hb dL_law_503 (by decide) (fun c_84 => ?_) (fun c_84 => ?_)
  · replace h := h.1 c_84
    refine lv_iload hx hb dL_law_508 (lv_at hl 1 rfl) ?_
    refine lv_if_ne (tgt := 525) hx hb dL_law_510 (by decide) (fun c_83 => ?_) (fun c_83 => ?_)
    · replace h := h.1 c_83
      exact k_L_law_525 X hfl hL hi hX hbl hbA aX aM aO hN _ _ _ _ _ _ h hw (lv_sub hl [2, 3, 4, 5, 6] rfl)
    replace h := h.2 c_83
    refine lv_aload_n hx hb dL_law_513 rfl (lv_at hl 5 rfl) ?_
    refine lv_iconst (v := 0) hx hb dL_law_514 (by decide) ?_
    refine r_lald (v := (vO_74 0)) X hw 69 rfl (vpl rfl) rfl dL_law_515 ?_
    refine lv_iload hx hb dL_law_516 (lv_at hl 0 rfl) ?_
    refine lv_i2l (v := Int32.toInt64 r_79) hx hb dL_law_518 rfl ?_
    refine W.lcmp hx hb dL_law_519 ?_
    refine lv_if_eq (tgt := 525) hx hb dL_law_520 (by decide) (fun c_82 => ?_) (fun c_82 => ?_)
    · replace h := h.1 c_82
      exact k_L_law_525 X hfl hL hi hX hbl hbA aX aM aO hN _ _ _ _ _ _ h hw (lv_sub hl [2, 3, 4, 5, 6] rfl)
    replace h := h.2 c_82
    refine lv_iconst (v := 0) hx hb dL_law_523 (by decide) ?_
    exact absurd h id
  replace h := h.2 c_84
  refine lv_iconst (v := 0) hx hb dL_law_506 (by decide) ?_
  exact absurd h id
def wp_L_law_581 (xs : Nat → Int32) (i : Nat) (N : XV → MV → OV → Prop) (vX : XV) (vM : MV) (vO : OV) : Prop := N vX vM vO
set_option maxHeartbeats 4000000 in
set_option maxRecDepth 100000 in
theorem k_L_law_581 {p : Program} {l : Launch} {e : Env} {s : State} {m : MethodId} {below : List Frame} {meth : Method} {c : Code} {args : Array Value} {D : va_G} {t : T3} {A : Nat → Prop} {Z : State → Prop} {b L i : Nat} {xs : Nat → Int32} (X : Cx p s m meth c args cL_law 9 (some .boolean) RL wsL_law D t A) (hfl : l.stackTraces = false) (hL : L ≤ 2048) (hi : i + 4 ≤ L) (hX : va_X b L xs s s.heap) (hbl : b < s.heap.size) (hbA : ¬ A b) (aX : XA) (aM : MA) (aO : Nat) {N : XV → MV → OV → Prop} (hN : ∀ (vX : XV) (vM : MV) (vO : OV) (H : Heap) (locs : List Loc) (ls : Array Slot), N vX vM vO → Wd D A s.heap (xW t aX vX ++ (mW t aM vM ++ (oW t aO vO))) H locs → lv_has ls 9 [(0, .ref b), (1, .ref (XA.o aX)), (2, .ref (MA.o aM)), (3, .ref aO), (4, .int (nI i))] → W p l e room_1 s m args below meth c H locs (100 + i + 4) (3000 + 6 * i + 24) Z (F0 m 1385 ls [])) : ∀ (vX : XV) (vM : MV) (vO : OV) (H : Heap) (locs : List Loc) (ls : Array Slot), wp_L_law_581 xs i N vX vM vO → Wd D A s.heap (xW t aX vX ++ (mW t aM vM ++ (oW t aO vO))) H locs → lv_has ls 9 [(0, .ref b), (1, .ref (XA.o aX)), (2, .ref (MA.o aM)), (3, .ref aO), (4, .int (nI i))] → W p l e room_1 s m args below meth c H locs (100 + i + 2) (3000 + 6 * i + 12) Z (F0 m 581 ls []) := by
  intro vX vM vO H locs ls h hw hl
  have hx := X.1.1
  have hb := X.1.2.1
  refine lv_goto (tgt := 1385) hx hb dL_law_581 (by decide) ?_
  refine W.widen (k := 100 + i + 4) (n := 3000 + 6 * i + 24) (by omega) (by omega) ?_
  exact hN _ _ _ _ _ _ h hw hl
def wp_L_law_528 (xs : Nat → Int32) (i : Nat) (N : XV → MV → OV → Prop) (vX : XV) (vM : MV) (vO : OV) : Prop := wp_L_take vX vO (xs (i + 1)) (fun (r_89 : Int32) (vX_87 : XV) (vO_88 : OV) => wp_X7_take vM (xs (i + 1)) (fun (r_92 : Int32) (vM_91 : MV) => wp_X7_thrown vM_91  (fun (r_94 : Int32) (vM_93 : MV) => (r_94 = r_89 → (¬ r_89 = 0 → wp_L_law_581 xs i N vX_87 vM_93 vO_88) ∧ (r_89 = 0 → ((lg_cmp (vO_88 0) (Int32.toInt64 r_92)) = 0 → wp_L_law_581 xs i N vX_87 vM_93 vO_88) ∧ (¬ (lg_cmp (vO_88 0) (Int32.toInt64 r_92)) = 0 → False))) ∧ (¬ r_94 = r_89 → False))))
set_option maxHeartbeats 4000000 in
set_option maxRecDepth 100000 in
theorem k_L_law_528 {p : Program} {l : Launch} {e : Env} {s : State} {m : MethodId} {below : List Frame} {meth : Method} {c : Code} {args : Array Value} {D : va_G} {t : T3} {A : Nat → Prop} {Z : State → Prop} {b L i : Nat} {xs : Nat → Int32} (X : Cx p s m meth c args cL_law 9 (some .boolean) RL wsL_law D t A) (hfl : l.stackTraces = false) (hL : L ≤ 2048) (hi : i + 4 ≤ L) (hX : va_X b L xs s s.heap) (hbl : b < s.heap.size) (hbA : ¬ A b) (aX : XA) (aM : MA) (aO : Nat) {N : XV → MV → OV → Prop} (hN : ∀ (vX : XV) (vM : MV) (vO : OV) (H : Heap) (locs : List Loc) (ls : Array Slot), N vX vM vO → Wd D A s.heap (xW t aX vX ++ (mW t aM vM ++ (oW t aO vO))) H locs → lv_has ls 9 [(0, .ref b), (1, .ref (XA.o aX)), (2, .ref (MA.o aM)), (3, .ref aO), (4, .int (nI i))] → W p l e room_1 s m args below meth c H locs (100 + i + 4) (3000 + 6 * i + 24) Z (F0 m 1385 ls [])) : ∀ (vX : XV) (vM : MV) (vO : OV) (H : Heap) (locs : List Loc) (ls : Array Slot), wp_L_law_528 xs i N vX vM vO → Wd D A s.heap (xW t aX vX ++ (mW t aM vM ++ (oW t aO vO))) H locs → lv_has ls 9 [(0, .ref b), (1, .ref (XA.o aX)), (2, .ref (MA.o aM)), (3, .ref aO), (4, .int (nI i))] → W p l e room_1 s m args below meth c H locs (100 + i) (3000 + 6 * i) Z (F0 m 528 ls []) := by
  intro vX vM vO H locs ls h hw hl
  have hx := X.1.1
  have hb := X.1.2.1
  refine lv_aload_n hx hb dL_law_528 rfl (lv_at hl 1 rfl) ?_
  refine lv_aload_n hx hb dL_law_529 rfl (lv_at hl 0 rfl) ?_
  refine lv_iload hx hb dL_law_530 (lv_at hl 4 rfl) ?_
  refine lv_iconst (v := 1) hx hb dL_law_532 (by decide) ?_
  refine lv_iadd hx hb dL_law_533 ?_
  refine lv_topi (fun q_86 eq_86 => ?_)
  obtain rfl : q_86 = nI (i + 1) := eq_86.trans (nI_p1 i)
  refine r_sld X hw hX hbl hbA hL (j := (i + 1)) (by omega) dL_law_534 ?_
  refine lv_aload_n hx hb dL_law_535 rfl (lv_at hl 3 rfl) ?_
  refine r_ci X hw (pm_2 (pm_l pm_0) (pm_r (pm_r pm_0))) (wn := fun (u : XV × OV) => (xW t aX u.1 ++ (mW t aM vM ++ (oW t aO u.2)))) (fun u => (pm_2 (pm_l pm_0) (pm_r (pm_r pm_0))).symm) (r_runSW X hw (c_L_take l D t aX aO vX vO (xs (i + 1)) _ hfl h) (pm_2 (pm_l pm_0) (pm_r (pm_r pm_0))) (vx_cwSW 3 X.1.2.2.2.2 gL_law_L_take rfl rfl rfl (by decide +kernel) ⟨Nat.le_of_ble_eq_true rfl, Nat.le_of_ble_eq_true rfl⟩) rfl hl rfl (Nat.le_of_ble_eq_true rfl) dL_law_536 ⟨by show 100 + i + 0 + 2 ≤ 601024; omega, by show 3000 + 6 * i + 0 + 12 ≤ 7293034; omega⟩) (fun r_89 u H locs h hw => ?_)
  obtain ⟨vX_87, vO_88⟩ := u
  refine lv_istore (lv' := [(5, .int r_89), (0, .ref b), (1, .ref (XA.o aX)), (2, .ref (MA.o aM)), (3, .ref aO), (4, .int (nI i))]) hx hb dL_law_539 hl (by decide) rfl (fun ls hl => ?_)
  refine lv_aload_n hx hb dL_law_541 rfl (lv_at hl 3 rfl) ?_
  refine lv_aload_n hx hb dL_law_542 rfl (lv_at hl 1 rfl) ?_
  refine lv_iload hx hb dL_law_543 (lv_at hl 5 rfl) ?_
  refine lv_iconst (v := 1) hx hb dL_law_545 (by decide) ?_
  refine lv_iadd hx hb dL_law_546 ?_
  refine lv_topi (fun q_90 eq_90 => ?_)
  obtain rfl : q_90 = nI (i + 1) := eq_90.trans (nI_p1 i)
  refine r_sld X hw hX hbl hbA hL (j := (i + 1)) (by omega) dL_law_547 ?_
  refine r_ci X hw (pm_r (pm_l pm_0)) (wn := fun (u : MV) => (xW t aX vX_87 ++ (mW t aM u ++ (oW t aO vO_88)))) (fun u => (pm_r (pm_l pm_0)).symm) (r_runV X hw (c_X7_take l D t aM vM (xs (i + 1)) _ h) (pm_r (pm_l pm_0)) (cwV 1 X.1.2.2.2.2 gL_law_X7_take rfl rfl rfl (by decide +kernel) ⟨Nat.le_of_ble_eq_true rfl, Nat.le_of_ble_eq_true rfl⟩) (ci := 7) rfl rfl rfl rfl hl rfl (Nat.le_of_ble_eq_true rfl) dL_law_548 ⟨by show 100 + i + 2 + 0 ≤ 601024; omega, by show 3000 + 6 * i + 12 + 0 ≤ 7293034; omega⟩) (fun r_92 u H locs h hw => ?_)
  obtain ⟨vM_91, rfl⟩ : ∃ z, z = u := ⟨_, rfl⟩
  refine lv_istore (lv' := [(6, .int r_92), (5, .int r_89), (0, .ref b), (1, .ref (XA.o aX)), (2, .ref (MA.o aM)), (3, .ref aO), (4, .int (nI i))]) hx hb dL_law_551 hl (by decide) rfl (fun ls hl => ?_)
  refine lv_aload_n hx hb dL_law_553 rfl (lv_at hl 4 rfl) ?_
  refine r_ci X hw (pm_r (pm_l pm_0)) (wn := fun (u : MV) => (xW t aX vX_87 ++ (mW t aM u ++ (oW t aO vO_88)))) (fun u => (pm_r (pm_l pm_0)).symm) (r_runV X hw (c_X7_thrown l D t aM vM_91 _ h) (pm_r (pm_l pm_0)) (cwV 0 X.1.2.2.2.2 gL_law_X7_thrown rfl rfl rfl (by decide +kernel) ⟨Nat.le_of_ble_eq_true rfl, Nat.le_of_ble_eq_true rfl⟩) (ci := 7) rfl rfl rfl rfl hl rfl (Nat.le_of_ble_eq_true rfl) dL_law_554 ⟨by show 100 + i + 2 + 0 ≤ 601024; omega, by show 3000 + 6 * i + 12 + 0 ≤ 7293034; omega⟩) (fun r_94 u H locs h hw => ?_)
  obtain ⟨vM_93, rfl⟩ : ∃ z, z = u := ⟨_, rfl⟩
  refine lv_iload hx hb dL_law_557 (lv_at hl 1 rfl) ?_
  refine lv_icmp_eq (tgt := 564) hx hb dL_law_559 (by decide) (fun c_97 => ?_) (fun c_97 => ?_)
  · replace h := h.1 c_97
    refine lv_iload hx hb dL_law_564 (lv_at hl 1 rfl) ?_
    refine lv_if_ne (tgt := 581) hx hb dL_law_566 (by decide) (fun c_96 => ?_) (fun c_96 => ?_)
    · replace h := h.1 c_96
      exact k_L_law_581 X hfl hL hi hX hbl hbA aX aM aO hN _ _ _ _ _ _ h hw (lv_sub hl [2, 3, 4, 5, 6] rfl)
    replace h := h.2 c_96
    refine lv_aload_n hx hb dL_law_569 rfl (lv_at hl 5 rfl) ?_
    refine lv_iconst (v := 0) hx hb dL_law_570 (by decide) ?_
    refine r_lald (v := (vO_88 0)) X hw 69 rfl (vpl rfl) rfl dL_law_571 ?_
    refine lv_iload hx hb dL_law_572 (lv_at hl 0 rfl) ?_
    refine lv_i2l (v := Int32.toInt64 r_92) hx hb dL_law_574 rfl ?_
    refine W.lcmp hx hb dL_law_575 ?_
    refine lv_if_eq (tgt := 581) hx hb dL_law_576 (by decide) (fun c_95 => ?_) (fun c_95 => ?_)
    · replace h := h.1 c_95
      exact k_L_law_581 X hfl hL hi hX hbl hbA aX aM aO hN _ _ _ _ _ _ h hw (lv_sub hl [2, 3, 4, 5, 6] rfl)
    replace h := h.2 c_95
    refine lv_iconst (v := 0) hx hb dL_law_579 (by decide) ?_
    exact absurd h id
  replace h := h.2 c_97
  refine lv_iconst (v := 0) hx hb dL_law_562 (by decide) ?_
  exact absurd h id
def wp_L_law_637 (xs : Nat → Int32) (i : Nat) (N : XV → MV → OV → Prop) (vX : XV) (vM : MV) (vO : OV) : Prop := N vX vM vO
set_option maxHeartbeats 4000000 in
set_option maxRecDepth 100000 in
theorem k_L_law_637 {p : Program} {l : Launch} {e : Env} {s : State} {m : MethodId} {below : List Frame} {meth : Method} {c : Code} {args : Array Value} {D : va_G} {t : T3} {A : Nat → Prop} {Z : State → Prop} {b L i : Nat} {xs : Nat → Int32} (X : Cx p s m meth c args cL_law 9 (some .boolean) RL wsL_law D t A) (hfl : l.stackTraces = false) (hL : L ≤ 2048) (hi : i + 4 ≤ L) (hX : va_X b L xs s s.heap) (hbl : b < s.heap.size) (hbA : ¬ A b) (aX : XA) (aM : MA) (aO : Nat) {N : XV → MV → OV → Prop} (hN : ∀ (vX : XV) (vM : MV) (vO : OV) (H : Heap) (locs : List Loc) (ls : Array Slot), N vX vM vO → Wd D A s.heap (xW t aX vX ++ (mW t aM vM ++ (oW t aO vO))) H locs → lv_has ls 9 [(0, .ref b), (1, .ref (XA.o aX)), (2, .ref (MA.o aM)), (3, .ref aO), (4, .int (nI i))] → W p l e room_1 s m args below meth c H locs (100 + i + 4) (3000 + 6 * i + 24) Z (F0 m 1385 ls [])) : ∀ (vX : XV) (vM : MV) (vO : OV) (H : Heap) (locs : List Loc) (ls : Array Slot), wp_L_law_637 xs i N vX vM vO → Wd D A s.heap (xW t aX vX ++ (mW t aM vM ++ (oW t aO vO))) H locs → lv_has ls 9 [(0, .ref b), (1, .ref (XA.o aX)), (2, .ref (MA.o aM)), (3, .ref aO), (4, .int (nI i))] → W p l e room_1 s m args below meth c H locs (100 + i + 2) (3000 + 6 * i + 12) Z (F0 m 637 ls []) := by
  intro vX vM vO H locs ls h hw hl
  have hx := X.1.1
  have hb := X.1.2.1
  refine lv_goto (tgt := 1385) hx hb dL_law_637 (by decide) ?_
  refine W.widen (k := 100 + i + 4) (n := 3000 + 6 * i + 24) (by omega) (by omega) ?_
  exact hN _ _ _ _ _ _ h hw hl
def wp_L_law_584 (xs : Nat → Int32) (i : Nat) (N : XV → MV → OV → Prop) (vX : XV) (vM : MV) (vO : OV) : Prop := wp_L_fix vX vO (xs (i + 1)) (fun (r_102 : Int32) (vX_100 : XV) (vO_101 : OV) => wp_X7_fix vM (xs (i + 1)) (fun (r_105 : Int32) (vM_104 : MV) => wp_X7_thrown vM_104  (fun (r_107 : Int32) (vM_106 : MV) => (r_107 = r_102 → (¬ r_102 = 0 → wp_L_law_637 xs i N vX_100 vM_106 vO_101) ∧ (r_102 = 0 → ((lg_cmp (vO_101 0) (Int32.toInt64 r_105)) = 0 → wp_L_law_637 xs i N vX_100 vM_106 vO_101) ∧ (¬ (lg_cmp (vO_101 0) (Int32.toInt64 r_105)) = 0 → False))) ∧ (¬ r_107 = r_102 → False))))
set_option maxHeartbeats 4000000 in
set_option maxRecDepth 100000 in
theorem k_L_law_584 {p : Program} {l : Launch} {e : Env} {s : State} {m : MethodId} {below : List Frame} {meth : Method} {c : Code} {args : Array Value} {D : va_G} {t : T3} {A : Nat → Prop} {Z : State → Prop} {b L i : Nat} {xs : Nat → Int32} (X : Cx p s m meth c args cL_law 9 (some .boolean) RL wsL_law D t A) (hfl : l.stackTraces = false) (hL : L ≤ 2048) (hi : i + 4 ≤ L) (hX : va_X b L xs s s.heap) (hbl : b < s.heap.size) (hbA : ¬ A b) (aX : XA) (aM : MA) (aO : Nat) {N : XV → MV → OV → Prop} (hN : ∀ (vX : XV) (vM : MV) (vO : OV) (H : Heap) (locs : List Loc) (ls : Array Slot), N vX vM vO → Wd D A s.heap (xW t aX vX ++ (mW t aM vM ++ (oW t aO vO))) H locs → lv_has ls 9 [(0, .ref b), (1, .ref (XA.o aX)), (2, .ref (MA.o aM)), (3, .ref aO), (4, .int (nI i))] → W p l e room_1 s m args below meth c H locs (100 + i + 4) (3000 + 6 * i + 24) Z (F0 m 1385 ls [])) : ∀ (vX : XV) (vM : MV) (vO : OV) (H : Heap) (locs : List Loc) (ls : Array Slot), wp_L_law_584 xs i N vX vM vO → Wd D A s.heap (xW t aX vX ++ (mW t aM vM ++ (oW t aO vO))) H locs → lv_has ls 9 [(0, .ref b), (1, .ref (XA.o aX)), (2, .ref (MA.o aM)), (3, .ref aO), (4, .int (nI i))] → W p l e room_1 s m args below meth c H locs (100 + i) (3000 + 6 * i) Z (F0 m 584 ls []) := by
  intro vX vM vO H locs ls h hw hl
  have hx := X.1.1
  have hb := X.1.2.1
  refine lv_aload_n hx hb dL_law_584 rfl (lv_at hl 1 rfl) ?_
  refine lv_aload_n hx hb dL_law_585 rfl (lv_at hl 0 rfl) ?_
  refine lv_iload hx hb dL_law_586 (lv_at hl 4 rfl) ?_
  refine lv_iconst (v := 1) hx hb dL_law_588 (by decide) ?_
  refine lv_iadd hx hb dL_law_589 ?_
  refine lv_topi (fun q_99 eq_99 => ?_)
  obtain rfl : q_99 = nI (i + 1) := eq_99.trans (nI_p1 i)
  refine r_sld X hw hX hbl hbA hL (j := (i + 1)) (by omega) dL_law_590 ?_
  refine lv_aload_n hx hb dL_law_591 rfl (lv_at hl 3 rfl) ?_
  refine r_ci X hw (pm_2 (pm_l pm_0) (pm_r (pm_r pm_0))) (wn := fun (u : XV × OV) => (xW t aX u.1 ++ (mW t aM vM ++ (oW t aO u.2)))) (fun u => (pm_2 (pm_l pm_0) (pm_r (pm_r pm_0))).symm) (r_runSW X hw (c_L_fix l D t aX aO vX vO (xs (i + 1)) _ hfl h) (pm_2 (pm_l pm_0) (pm_r (pm_r pm_0))) (vx_cwSW 3 X.1.2.2.2.2 gL_law_L_fix rfl rfl rfl (by decide +kernel) ⟨Nat.le_of_ble_eq_true rfl, Nat.le_of_ble_eq_true rfl⟩) rfl hl rfl (Nat.le_of_ble_eq_true rfl) dL_law_592 ⟨by show 100 + i + 0 + 2 ≤ 601024; omega, by show 3000 + 6 * i + 0 + 12 ≤ 7293034; omega⟩) (fun r_102 u H locs h hw => ?_)
  obtain ⟨vX_100, vO_101⟩ := u
  refine lv_istore (lv' := [(5, .int r_102), (0, .ref b), (1, .ref (XA.o aX)), (2, .ref (MA.o aM)), (3, .ref aO), (4, .int (nI i))]) hx hb dL_law_595 hl (by decide) rfl (fun ls hl => ?_)
  refine lv_aload_n hx hb dL_law_597 rfl (lv_at hl 3 rfl) ?_
  refine lv_aload_n hx hb dL_law_598 rfl (lv_at hl 1 rfl) ?_
  refine lv_iload hx hb dL_law_599 (lv_at hl 5 rfl) ?_
  refine lv_iconst (v := 1) hx hb dL_law_601 (by decide) ?_
  refine lv_iadd hx hb dL_law_602 ?_
  refine lv_topi (fun q_103 eq_103 => ?_)
  obtain rfl : q_103 = nI (i + 1) := eq_103.trans (nI_p1 i)
  refine r_sld X hw hX hbl hbA hL (j := (i + 1)) (by omega) dL_law_603 ?_
  refine r_ci X hw (pm_r (pm_l pm_0)) (wn := fun (u : MV) => (xW t aX vX_100 ++ (mW t aM u ++ (oW t aO vO_101)))) (fun u => (pm_r (pm_l pm_0)).symm) (r_runV X hw (c_X7_fix l D t aM vM (xs (i + 1)) _ h) (pm_r (pm_l pm_0)) (cwV 1 X.1.2.2.2.2 gL_law_X7_fix rfl rfl rfl (by decide +kernel) ⟨Nat.le_of_ble_eq_true rfl, Nat.le_of_ble_eq_true rfl⟩) (ci := 7) rfl rfl rfl rfl hl rfl (Nat.le_of_ble_eq_true rfl) dL_law_604 ⟨by show 100 + i + 2 + 0 ≤ 601024; omega, by show 3000 + 6 * i + 12 + 0 ≤ 7293034; omega⟩) (fun r_105 u H locs h hw => ?_)
  obtain ⟨vM_104, rfl⟩ : ∃ z, z = u := ⟨_, rfl⟩
  refine lv_istore (lv' := [(6, .int r_105), (5, .int r_102), (0, .ref b), (1, .ref (XA.o aX)), (2, .ref (MA.o aM)), (3, .ref aO), (4, .int (nI i))]) hx hb dL_law_607 hl (by decide) rfl (fun ls hl => ?_)
  refine lv_aload_n hx hb dL_law_609 rfl (lv_at hl 4 rfl) ?_
  refine r_ci X hw (pm_r (pm_l pm_0)) (wn := fun (u : MV) => (xW t aX vX_100 ++ (mW t aM u ++ (oW t aO vO_101)))) (fun u => (pm_r (pm_l pm_0)).symm) (r_runV X hw (c_X7_thrown l D t aM vM_104 _ h) (pm_r (pm_l pm_0)) (cwV 0 X.1.2.2.2.2 gL_law_X7_thrown rfl rfl rfl (by decide +kernel) ⟨Nat.le_of_ble_eq_true rfl, Nat.le_of_ble_eq_true rfl⟩) (ci := 7) rfl rfl rfl rfl hl rfl (Nat.le_of_ble_eq_true rfl) dL_law_610 ⟨by show 100 + i + 2 + 0 ≤ 601024; omega, by show 3000 + 6 * i + 12 + 0 ≤ 7293034; omega⟩) (fun r_107 u H locs h hw => ?_)
  obtain ⟨vM_106, rfl⟩ : ∃ z, z = u := ⟨_, rfl⟩
  refine lv_iload hx hb dL_law_613 (lv_at hl 1 rfl) ?_
  refine lv_icmp_eq (tgt := 620) hx hb dL_law_615 (by decide) (fun c_110 => ?_) (fun c_110 => ?_)
  · replace h := h.1 c_110
    refine lv_iload hx hb dL_law_620 (lv_at hl 1 rfl) ?_
    refine lv_if_ne (tgt := 637) hx hb dL_law_622 (by decide) (fun c_109 => ?_) (fun c_109 => ?_)
    · replace h := h.1 c_109
      exact k_L_law_637 X hfl hL hi hX hbl hbA aX aM aO hN _ _ _ _ _ _ h hw (lv_sub hl [2, 3, 4, 5, 6] rfl)
    replace h := h.2 c_109
    refine lv_aload_n hx hb dL_law_625 rfl (lv_at hl 5 rfl) ?_
    refine lv_iconst (v := 0) hx hb dL_law_626 (by decide) ?_
    refine r_lald (v := (vO_101 0)) X hw 69 rfl (vpl rfl) rfl dL_law_627 ?_
    refine lv_iload hx hb dL_law_628 (lv_at hl 0 rfl) ?_
    refine lv_i2l (v := Int32.toInt64 r_105) hx hb dL_law_630 rfl ?_
    refine W.lcmp hx hb dL_law_631 ?_
    refine lv_if_eq (tgt := 637) hx hb dL_law_632 (by decide) (fun c_108 => ?_) (fun c_108 => ?_)
    · replace h := h.1 c_108
      exact k_L_law_637 X hfl hL hi hX hbl hbA aX aM aO hN _ _ _ _ _ _ h hw (lv_sub hl [2, 3, 4, 5, 6] rfl)
    replace h := h.2 c_108
    refine lv_iconst (v := 0) hx hb dL_law_635 (by decide) ?_
    exact absurd h id
  replace h := h.2 c_110
  refine lv_iconst (v := 0) hx hb dL_law_618 (by decide) ?_
  exact absurd h id
def wp_L_law_640 (xs : Nat → Int32) (i : Nat) (N : XV → MV → OV → Prop) (vX : XV) (vM : MV) (vO : OV) : Prop := wp_X6_clear vX  (fun (r_113 : Int32) (vX_112 : XV) => wp_X7_clear vM  (fun (r_115 : Int32) (vM_114 : MV) => (r_113 = r_115 → N vX_112 vM_114 vO) ∧ (¬ r_113 = r_115 → False)))
set_option maxHeartbeats 4000000 in
set_option maxRecDepth 100000 in
theorem k_L_law_640 {p : Program} {l : Launch} {e : Env} {s : State} {m : MethodId} {below : List Frame} {meth : Method} {c : Code} {args : Array Value} {D : va_G} {t : T3} {A : Nat → Prop} {Z : State → Prop} {b L i : Nat} {xs : Nat → Int32} (X : Cx p s m meth c args cL_law 9 (some .boolean) RL wsL_law D t A) (hfl : l.stackTraces = false) (hL : L ≤ 2048) (hi : i + 4 ≤ L) (hX : va_X b L xs s s.heap) (hbl : b < s.heap.size) (hbA : ¬ A b) (aX : XA) (aM : MA) (aO : Nat) {N : XV → MV → OV → Prop} (hN : ∀ (vX : XV) (vM : MV) (vO : OV) (H : Heap) (locs : List Loc) (ls : Array Slot), N vX vM vO → Wd D A s.heap (xW t aX vX ++ (mW t aM vM ++ (oW t aO vO))) H locs → lv_has ls 9 [(0, .ref b), (1, .ref (XA.o aX)), (2, .ref (MA.o aM)), (3, .ref aO), (4, .int (nI i))] → W p l e room_1 s m args below meth c H locs (100 + i + 4) (3000 + 6 * i + 24) Z (F0 m 1385 ls [])) : ∀ (vX : XV) (vM : MV) (vO : OV) (H : Heap) (locs : List Loc) (ls : Array Slot), wp_L_law_640 xs i N vX vM vO → Wd D A s.heap (xW t aX vX ++ (mW t aM vM ++ (oW t aO vO))) H locs → lv_has ls 9 [(0, .ref b), (1, .ref (XA.o aX)), (2, .ref (MA.o aM)), (3, .ref aO), (4, .int (nI i))] → W p l e room_1 s m args below meth c H locs (100 + i) (3000 + 6 * i) Z (F0 m 640 ls []) := by
  intro vX vM vO H locs ls h hw hl
  have hx := X.1.1
  have hb := X.1.2.1
  refine lv_aload_n hx hb dL_law_640 rfl (lv_at hl 1 rfl) ?_
  refine r_ci X hw (pm_l pm_0) (wn := fun (u : XV) => (xW t aX u ++ (mW t aM vM ++ (oW t aO vO)))) (fun u => (pm_l pm_0).symm) (r_runV X hw (c_X6_clear l D t aX vX _ h) (pm_l pm_0) (cwV 0 X.1.2.2.2.2 gL_law_X6_clear rfl rfl rfl (by decide +kernel) ⟨Nat.le_of_ble_eq_true rfl, Nat.le_of_ble_eq_true rfl⟩) (ci := 6) rfl rfl rfl rfl hl rfl (Nat.le_of_ble_eq_true rfl) dL_law_641 ⟨by show 100 + i + 0 + 0 ≤ 601024; omega, by show 3000 + 6 * i + 0 + 0 ≤ 7293034; omega⟩) (fun r_113 u H locs h hw => ?_)
  obtain ⟨vX_112, rfl⟩ : ∃ z, z = u := ⟨_, rfl⟩
  refine lv_aload_n hx hb dL_law_644 rfl (lv_at hl 2 rfl) ?_
  refine r_ci X hw (pm_r (pm_l pm_0)) (wn := fun (u : MV) => (xW t aX vX_112 ++ (mW t aM u ++ (oW t aO vO)))) (fun u => (pm_r (pm_l pm_0)).symm) (r_runV X hw (c_X7_clear l D t aM vM _ h) (pm_r (pm_l pm_0)) (cwV 0 X.1.2.2.2.2 gL_law_X7_clear rfl rfl rfl (by decide +kernel) ⟨Nat.le_of_ble_eq_true rfl, Nat.le_of_ble_eq_true rfl⟩) (ci := 7) rfl rfl rfl rfl hl rfl (Nat.le_of_ble_eq_true rfl) dL_law_645 ⟨by show 100 + i + 0 + 0 ≤ 601024; omega, by show 3000 + 6 * i + 0 + 0 ≤ 7293034; omega⟩) (fun r_115 u H locs h hw => ?_)
  obtain ⟨vM_114, rfl⟩ : ∃ z, z = u := ⟨_, rfl⟩
  refine lv_icmp_eq (tgt := 1385) hx hb dL_law_648 (by decide) (fun c_116 => ?_) (fun c_116 => ?_)
  · replace h := h.1 c_116
    refine W.widen (k := 100 + i + 4) (n := 3000 + 6 * i + 24) (by omega) (by omega) ?_
    exact hN _ _ _ _ _ _ h hw hl
  replace h := h.2 c_116
  refine lv_iconst (v := 0) hx hb dL_law_651 (by decide) ?_
  exact absurd h id
def wp_L_law_653 (xs : Nat → Int32) (i : Nat) (N : XV → MV → OV → Prop) (vX : XV) (vM : MV) (vO : OV) : Prop := wp_X6_turnOver vX  (fun (r_119 : Int32) (vX_118 : XV) => wp_X7_turnOver vM  (fun (r_121 : Int32) (vM_120 : MV) => (r_119 = r_121 → N vX_118 vM_120 vO) ∧ (¬ r_119 = r_121 → False)))
set_option maxHeartbeats 4000000 in
set_option maxRecDepth 100000 in
theorem k_L_law_653 {p : Program} {l : Launch} {e : Env} {s : State} {m : MethodId} {below : List Frame} {meth : Method} {c : Code} {args : Array Value} {D : va_G} {t : T3} {A : Nat → Prop} {Z : State → Prop} {b L i : Nat} {xs : Nat → Int32} (X : Cx p s m meth c args cL_law 9 (some .boolean) RL wsL_law D t A) (hfl : l.stackTraces = false) (hL : L ≤ 2048) (hi : i + 4 ≤ L) (hX : va_X b L xs s s.heap) (hbl : b < s.heap.size) (hbA : ¬ A b) (aX : XA) (aM : MA) (aO : Nat) {N : XV → MV → OV → Prop} (hN : ∀ (vX : XV) (vM : MV) (vO : OV) (H : Heap) (locs : List Loc) (ls : Array Slot), N vX vM vO → Wd D A s.heap (xW t aX vX ++ (mW t aM vM ++ (oW t aO vO))) H locs → lv_has ls 9 [(0, .ref b), (1, .ref (XA.o aX)), (2, .ref (MA.o aM)), (3, .ref aO), (4, .int (nI i))] → W p l e room_1 s m args below meth c H locs (100 + i + 4) (3000 + 6 * i + 24) Z (F0 m 1385 ls [])) : ∀ (vX : XV) (vM : MV) (vO : OV) (H : Heap) (locs : List Loc) (ls : Array Slot), wp_L_law_653 xs i N vX vM vO → Wd D A s.heap (xW t aX vX ++ (mW t aM vM ++ (oW t aO vO))) H locs → lv_has ls 9 [(0, .ref b), (1, .ref (XA.o aX)), (2, .ref (MA.o aM)), (3, .ref aO), (4, .int (nI i))] → W p l e room_1 s m args below meth c H locs (100 + i) (3000 + 6 * i) Z (F0 m 653 ls []) := by
  intro vX vM vO H locs ls h hw hl
  have hx := X.1.1
  have hb := X.1.2.1
  refine lv_aload_n hx hb dL_law_653 rfl (lv_at hl 1 rfl) ?_
  refine r_ci X hw (pm_l pm_0) (wn := fun (u : XV) => (xW t aX u ++ (mW t aM vM ++ (oW t aO vO)))) (fun u => (pm_l pm_0).symm) (r_runV X hw (c_X6_turnOver l D t aX vX _ h) (pm_l pm_0) (cwV 0 X.1.2.2.2.2 gL_law_X6_turnOver rfl rfl rfl (by decide +kernel) ⟨Nat.le_of_ble_eq_true rfl, Nat.le_of_ble_eq_true rfl⟩) (ci := 6) rfl rfl rfl rfl hl rfl (Nat.le_of_ble_eq_true rfl) dL_law_654 ⟨by show 100 + i + 0 + 0 ≤ 601024; omega, by show 3000 + 6 * i + 0 + 0 ≤ 7293034; omega⟩) (fun r_119 u H locs h hw => ?_)
  obtain ⟨vX_118, rfl⟩ : ∃ z, z = u := ⟨_, rfl⟩
  refine lv_aload_n hx hb dL_law_657 rfl (lv_at hl 2 rfl) ?_
  refine r_ci X hw (pm_r (pm_l pm_0)) (wn := fun (u : MV) => (xW t aX vX_118 ++ (mW t aM u ++ (oW t aO vO)))) (fun u => (pm_r (pm_l pm_0)).symm) (r_runV X hw (c_X7_turnOver l D t aM vM _ h) (pm_r (pm_l pm_0)) (cwV 0 X.1.2.2.2.2 gL_law_X7_turnOver rfl rfl rfl (by decide +kernel) ⟨Nat.le_of_ble_eq_true rfl, Nat.le_of_ble_eq_true rfl⟩) (ci := 7) rfl rfl rfl rfl hl rfl (Nat.le_of_ble_eq_true rfl) dL_law_658 ⟨by show 100 + i + 0 + 0 ≤ 601024; omega, by show 3000 + 6 * i + 0 + 0 ≤ 7293034; omega⟩) (fun r_121 u H locs h hw => ?_)
  obtain ⟨vM_120, rfl⟩ : ∃ z, z = u := ⟨_, rfl⟩
  refine lv_icmp_eq (tgt := 1385) hx hb dL_law_661 (by decide) (fun c_122 => ?_) (fun c_122 => ?_)
  · replace h := h.1 c_122
    refine W.widen (k := 100 + i + 4) (n := 3000 + 6 * i + 24) (by omega) (by omega) ?_
    exact hN _ _ _ _ _ _ h hw hl
  replace h := h.2 c_122
  refine lv_iconst (v := 0) hx hb dL_law_664 (by decide) ?_
  exact absurd h id
def wp_L_law_707 (xs : Nat → Int32) (i : Nat) (N : XV → MV → OV → Prop) (vX : XV) (vM : MV) (vO : OV) : Prop := N vX vM vO
set_option maxHeartbeats 4000000 in
set_option maxRecDepth 100000 in
theorem k_L_law_707 {p : Program} {l : Launch} {e : Env} {s : State} {m : MethodId} {below : List Frame} {meth : Method} {c : Code} {args : Array Value} {D : va_G} {t : T3} {A : Nat → Prop} {Z : State → Prop} {b L i : Nat} {xs : Nat → Int32} (X : Cx p s m meth c args cL_law 9 (some .boolean) RL wsL_law D t A) (hfl : l.stackTraces = false) (hL : L ≤ 2048) (hi : i + 4 ≤ L) (hX : va_X b L xs s s.heap) (hbl : b < s.heap.size) (hbA : ¬ A b) (aX : XA) (aM : MA) (aO : Nat) {N : XV → MV → OV → Prop} (hN : ∀ (vX : XV) (vM : MV) (vO : OV) (H : Heap) (locs : List Loc) (ls : Array Slot), N vX vM vO → Wd D A s.heap (xW t aX vX ++ (mW t aM vM ++ (oW t aO vO))) H locs → lv_has ls 9 [(0, .ref b), (1, .ref (XA.o aX)), (2, .ref (MA.o aM)), (3, .ref aO), (4, .int (nI i))] → W p l e room_1 s m args below meth c H locs (100 + i + 4) (3000 + 6 * i + 24) Z (F0 m 1385 ls [])) : ∀ (vX : XV) (vM : MV) (vO : OV) (H : Heap) (locs : List Loc) (ls : Array Slot), wp_L_law_707 xs i N vX vM vO → Wd D A s.heap (xW t aX vX ++ (mW t aM vM ++ (oW t aO vO))) H locs → lv_has ls 9 [(0, .ref b), (1, .ref (XA.o aX)), (2, .ref (MA.o aM)), (3, .ref aO), (4, .int (nI i))] → W p l e room_1 s m args below meth c H locs (100 + i + 1) (3000 + 6 * i + 6) Z (F0 m 707 ls []) := by
  intro vX vM vO H locs ls h hw hl
  have hx := X.1.1
  have hb := X.1.2.1
  refine lv_goto (tgt := 1385) hx hb dL_law_707 (by decide) ?_
  refine W.widen (k := 100 + i + 4) (n := 3000 + 6 * i + 24) (by omega) (by omega) ?_
  exact hN _ _ _ _ _ _ h hw hl
def wp_L_law_666 (xs : Nat → Int32) (i : Nat) (N : XV → MV → OV → Prop) (vX : XV) (vM : MV) (vO : OV) : Prop := wp_L_solve vX vO  (fun (r_126 : Int32) (vX_124 : XV) (vO_125 : OV) => wp_X7_solve vM  (fun (r_128 : Int32) (vM_127 : MV) => wp_X7_thrown vM_127  (fun (r_130 : Int32) (vM_129 : MV) => (r_130 = r_126 → (¬ r_126 = 0 → wp_L_law_707 xs i N vX_124 vM_129 vO_125) ∧ (r_126 = 0 → ((lg_cmp (vO_125 0) (Int32.toInt64 r_128)) = 0 → wp_L_law_707 xs i N vX_124 vM_129 vO_125) ∧ (¬ (lg_cmp (vO_125 0) (Int32.toInt64 r_128)) = 0 → False))) ∧ (¬ r_130 = r_126 → False))))
set_option maxHeartbeats 4000000 in
set_option maxRecDepth 100000 in
theorem k_L_law_666 {p : Program} {l : Launch} {e : Env} {s : State} {m : MethodId} {below : List Frame} {meth : Method} {c : Code} {args : Array Value} {D : va_G} {t : T3} {A : Nat → Prop} {Z : State → Prop} {b L i : Nat} {xs : Nat → Int32} (X : Cx p s m meth c args cL_law 9 (some .boolean) RL wsL_law D t A) (hfl : l.stackTraces = false) (hL : L ≤ 2048) (hi : i + 4 ≤ L) (hX : va_X b L xs s s.heap) (hbl : b < s.heap.size) (hbA : ¬ A b) (aX : XA) (aM : MA) (aO : Nat) {N : XV → MV → OV → Prop} (hN : ∀ (vX : XV) (vM : MV) (vO : OV) (H : Heap) (locs : List Loc) (ls : Array Slot), N vX vM vO → Wd D A s.heap (xW t aX vX ++ (mW t aM vM ++ (oW t aO vO))) H locs → lv_has ls 9 [(0, .ref b), (1, .ref (XA.o aX)), (2, .ref (MA.o aM)), (3, .ref aO), (4, .int (nI i))] → W p l e room_1 s m args below meth c H locs (100 + i + 4) (3000 + 6 * i + 24) Z (F0 m 1385 ls [])) : ∀ (vX : XV) (vM : MV) (vO : OV) (H : Heap) (locs : List Loc) (ls : Array Slot), wp_L_law_666 xs i N vX vM vO → Wd D A s.heap (xW t aX vX ++ (mW t aM vM ++ (oW t aO vO))) H locs → lv_has ls 9 [(0, .ref b), (1, .ref (XA.o aX)), (2, .ref (MA.o aM)), (3, .ref aO), (4, .int (nI i))] → W p l e room_1 s m args below meth c H locs (100 + i) (3000 + 6 * i) Z (F0 m 666 ls []) := by
  intro vX vM vO H locs ls h hw hl
  have hx := X.1.1
  have hb := X.1.2.1
  refine lv_aload_n hx hb dL_law_666 rfl (lv_at hl 1 rfl) ?_
  refine lv_aload_n hx hb dL_law_667 rfl (lv_at hl 3 rfl) ?_
  refine r_ci X hw (pm_2 (pm_l pm_0) (pm_r (pm_r pm_0))) (wn := fun (u : XV × OV) => (xW t aX u.1 ++ (mW t aM vM ++ (oW t aO u.2)))) (fun u => (pm_2 (pm_l pm_0) (pm_r (pm_r pm_0))).symm) (r_runSW X hw (c_L_solve l D t aX aO vX vO _ hfl h) (pm_2 (pm_l pm_0) (pm_r (pm_r pm_0))) (vx_cwSW 2 X.1.2.2.2.2 gL_law_L_solve rfl rfl rfl (by decide +kernel) ⟨Nat.le_of_ble_eq_true rfl, Nat.le_of_ble_eq_true rfl⟩) rfl hl rfl (Nat.le_of_ble_eq_true rfl) dL_law_668 ⟨by show 100 + i + 0 + 1 ≤ 601024; omega, by show 3000 + 6 * i + 0 + 6 ≤ 7293034; omega⟩) (fun r_126 u H locs h hw => ?_)
  obtain ⟨vX_124, vO_125⟩ := u
  refine lv_istore (lv' := [(5, .int r_126), (0, .ref b), (1, .ref (XA.o aX)), (2, .ref (MA.o aM)), (3, .ref aO), (4, .int (nI i))]) hx hb dL_law_671 hl (by decide) rfl (fun ls hl => ?_)
  refine lv_aload_n hx hb dL_law_673 rfl (lv_at hl 3 rfl) ?_
  refine r_ci X hw (pm_r (pm_l pm_0)) (wn := fun (u : MV) => (xW t aX vX_124 ++ (mW t aM u ++ (oW t aO vO_125)))) (fun u => (pm_r (pm_l pm_0)).symm) (r_runV X hw (c_X7_solve l D t aM vM _ h) (pm_r (pm_l pm_0)) (cwV 0 X.1.2.2.2.2 gL_law_X7_solve rfl rfl rfl (by decide +kernel) ⟨Nat.le_of_ble_eq_true rfl, Nat.le_of_ble_eq_true rfl⟩) (ci := 7) rfl rfl rfl rfl hl rfl (Nat.le_of_ble_eq_true rfl) dL_law_674 ⟨by show 100 + i + 1 + 0 ≤ 601024; omega, by show 3000 + 6 * i + 6 + 0 ≤ 7293034; omega⟩) (fun r_128 u H locs h hw => ?_)
  obtain ⟨vM_127, rfl⟩ : ∃ z, z = u := ⟨_, rfl⟩
  refine lv_istore (lv' := [(6, .int r_128), (5, .int r_126), (0, .ref b), (1, .ref (XA.o aX)), (2, .ref (MA.o aM)), (3, .ref aO), (4, .int (nI i))]) hx hb dL_law_677 hl (by decide) rfl (fun ls hl => ?_)
  refine lv_aload_n hx hb dL_law_679 rfl (lv_at hl 4 rfl) ?_
  refine r_ci X hw (pm_r (pm_l pm_0)) (wn := fun (u : MV) => (xW t aX vX_124 ++ (mW t aM u ++ (oW t aO vO_125)))) (fun u => (pm_r (pm_l pm_0)).symm) (r_runV X hw (c_X7_thrown l D t aM vM_127 _ h) (pm_r (pm_l pm_0)) (cwV 0 X.1.2.2.2.2 gL_law_X7_thrown rfl rfl rfl (by decide +kernel) ⟨Nat.le_of_ble_eq_true rfl, Nat.le_of_ble_eq_true rfl⟩) (ci := 7) rfl rfl rfl rfl hl rfl (Nat.le_of_ble_eq_true rfl) dL_law_680 ⟨by show 100 + i + 1 + 0 ≤ 601024; omega, by show 3000 + 6 * i + 6 + 0 ≤ 7293034; omega⟩) (fun r_130 u H locs h hw => ?_)
  obtain ⟨vM_129, rfl⟩ : ∃ z, z = u := ⟨_, rfl⟩
  refine lv_iload hx hb dL_law_683 (lv_at hl 1 rfl) ?_
  refine lv_icmp_eq (tgt := 690) hx hb dL_law_685 (by decide) (fun c_133 => ?_) (fun c_133 => ?_)
  · replace h := h.1 c_133
    refine lv_iload hx hb dL_law_690 (lv_at hl 1 rfl) ?_
    refine lv_if_ne (tgt := 707) hx hb dL_law_692 (by decide) (fun c_132 => ?_) (fun c_132 => ?_)
    · replace h := h.1 c_132
      exact k_L_law_707 X hfl hL hi hX hbl hbA aX aM aO hN _ _ _ _ _ _ h hw (lv_sub hl [2, 3, 4, 5, 6] rfl)
    replace h := h.2 c_132
    refine lv_aload_n hx hb dL_law_695 rfl (lv_at hl 5 rfl) ?_
    refine lv_iconst (v := 0) hx hb dL_law_696 (by decide) ?_
    refine r_lald (v := (vO_125 0)) X hw 69 rfl (vpl rfl) rfl dL_law_697 ?_
    refine lv_iload hx hb dL_law_698 (lv_at hl 0 rfl) ?_
    refine lv_i2l (v := Int32.toInt64 r_128) hx hb dL_law_700 rfl ?_
    refine W.lcmp hx hb dL_law_701 ?_
    refine lv_if_eq (tgt := 707) hx hb dL_law_702 (by decide) (fun c_131 => ?_) (fun c_131 => ?_)
    · replace h := h.1 c_131
      exact k_L_law_707 X hfl hL hi hX hbl hbA aX aM aO hN _ _ _ _ _ _ h hw (lv_sub hl [2, 3, 4, 5, 6] rfl)
    replace h := h.2 c_131
    refine lv_iconst (v := 0) hx hb dL_law_705 (by decide) ?_
    exact absurd h id
  replace h := h.2 c_133
  refine lv_iconst (v := 0) hx hb dL_law_688 (by decide) ?_
  exact absurd h id
def wp_L_law_763 (xs : Nat → Int32) (i : Nat) (N : XV → MV → OV → Prop) (vX : XV) (vM : MV) (vO : OV) : Prop := N vX vM vO
set_option maxHeartbeats 4000000 in
set_option maxRecDepth 100000 in
theorem k_L_law_763 {p : Program} {l : Launch} {e : Env} {s : State} {m : MethodId} {below : List Frame} {meth : Method} {c : Code} {args : Array Value} {D : va_G} {t : T3} {A : Nat → Prop} {Z : State → Prop} {b L i : Nat} {xs : Nat → Int32} (X : Cx p s m meth c args cL_law 9 (some .boolean) RL wsL_law D t A) (hfl : l.stackTraces = false) (hL : L ≤ 2048) (hi : i + 4 ≤ L) (hX : va_X b L xs s s.heap) (hbl : b < s.heap.size) (hbA : ¬ A b) (aX : XA) (aM : MA) (aO : Nat) {N : XV → MV → OV → Prop} (hN : ∀ (vX : XV) (vM : MV) (vO : OV) (H : Heap) (locs : List Loc) (ls : Array Slot), N vX vM vO → Wd D A s.heap (xW t aX vX ++ (mW t aM vM ++ (oW t aO vO))) H locs → lv_has ls 9 [(0, .ref b), (1, .ref (XA.o aX)), (2, .ref (MA.o aM)), (3, .ref aO), (4, .int (nI i))] → W p l e room_1 s m args below meth c H locs (100 + i + 4) (3000 + 6 * i + 24) Z (F0 m 1385 ls [])) : ∀ (vX : XV) (vM : MV) (vO : OV) (H : Heap) (locs : List Loc) (ls : Array Slot), wp_L_law_763 xs i N vX vM vO → Wd D A s.heap (xW t aX vX ++ (mW t aM vM ++ (oW t aO vO))) H locs → lv_has ls 9 [(0, .ref b), (1, .ref (XA.o aX)), (2, .ref (MA.o aM)), (3, .ref aO), (4, .int (nI i))] → W p l e room_1 s m args below meth c H locs (100 + i + 1) (3000 + 6 * i + 6) Z (F0 m 763 ls []) := by
  intro vX vM vO H locs ls h hw hl
  have hx := X.1.1
  have hb := X.1.2.1
  refine lv_goto (tgt := 1385) hx hb dL_law_763 (by decide) ?_
  refine W.widen (k := 100 + i + 4) (n := 3000 + 6 * i + 24) (by omega) (by omega) ?_
  exact hN _ _ _ _ _ _ h hw hl
def wp_L_law_710 (xs : Nat → Int32) (i : Nat) (N : XV → MV → OV → Prop) (vX : XV) (vM : MV) (vO : OV) : Prop := wp_L_append vX vO (xs (i + 1)) (fun (r_138 : Int32) (vX_136 : XV) (vO_137 : OV) => wp_X7_append vM (xs (i + 1)) (fun (r_141 : Int32) (vM_140 : MV) => wp_X7_thrown vM_140  (fun (r_143 : Int32) (vM_142 : MV) => (r_143 = r_138 → (¬ r_138 = 0 → wp_L_law_763 xs i N vX_136 vM_142 vO_137) ∧ (r_138 = 0 → ((lg_cmp (vO_137 0) (Int32.toInt64 r_141)) = 0 → wp_L_law_763 xs i N vX_136 vM_142 vO_137) ∧ (¬ (lg_cmp (vO_137 0) (Int32.toInt64 r_141)) = 0 → False))) ∧ (¬ r_143 = r_138 → False))))
set_option maxHeartbeats 4000000 in
set_option maxRecDepth 100000 in
theorem k_L_law_710 {p : Program} {l : Launch} {e : Env} {s : State} {m : MethodId} {below : List Frame} {meth : Method} {c : Code} {args : Array Value} {D : va_G} {t : T3} {A : Nat → Prop} {Z : State → Prop} {b L i : Nat} {xs : Nat → Int32} (X : Cx p s m meth c args cL_law 9 (some .boolean) RL wsL_law D t A) (hfl : l.stackTraces = false) (hL : L ≤ 2048) (hi : i + 4 ≤ L) (hX : va_X b L xs s s.heap) (hbl : b < s.heap.size) (hbA : ¬ A b) (aX : XA) (aM : MA) (aO : Nat) {N : XV → MV → OV → Prop} (hN : ∀ (vX : XV) (vM : MV) (vO : OV) (H : Heap) (locs : List Loc) (ls : Array Slot), N vX vM vO → Wd D A s.heap (xW t aX vX ++ (mW t aM vM ++ (oW t aO vO))) H locs → lv_has ls 9 [(0, .ref b), (1, .ref (XA.o aX)), (2, .ref (MA.o aM)), (3, .ref aO), (4, .int (nI i))] → W p l e room_1 s m args below meth c H locs (100 + i + 4) (3000 + 6 * i + 24) Z (F0 m 1385 ls [])) : ∀ (vX : XV) (vM : MV) (vO : OV) (H : Heap) (locs : List Loc) (ls : Array Slot), wp_L_law_710 xs i N vX vM vO → Wd D A s.heap (xW t aX vX ++ (mW t aM vM ++ (oW t aO vO))) H locs → lv_has ls 9 [(0, .ref b), (1, .ref (XA.o aX)), (2, .ref (MA.o aM)), (3, .ref aO), (4, .int (nI i))] → W p l e room_1 s m args below meth c H locs (100 + i) (3000 + 6 * i) Z (F0 m 710 ls []) := by
  intro vX vM vO H locs ls h hw hl
  have hx := X.1.1
  have hb := X.1.2.1
  refine lv_aload_n hx hb dL_law_710 rfl (lv_at hl 1 rfl) ?_
  refine lv_aload_n hx hb dL_law_711 rfl (lv_at hl 0 rfl) ?_
  refine lv_iload hx hb dL_law_712 (lv_at hl 4 rfl) ?_
  refine lv_iconst (v := 1) hx hb dL_law_714 (by decide) ?_
  refine lv_iadd hx hb dL_law_715 ?_
  refine lv_topi (fun q_135 eq_135 => ?_)
  obtain rfl : q_135 = nI (i + 1) := eq_135.trans (nI_p1 i)
  refine r_sld X hw hX hbl hbA hL (j := (i + 1)) (by omega) dL_law_716 ?_
  refine lv_aload_n hx hb dL_law_717 rfl (lv_at hl 3 rfl) ?_
  refine r_ci X hw (pm_2 (pm_l pm_0) (pm_r (pm_r pm_0))) (wn := fun (u : XV × OV) => (xW t aX u.1 ++ (mW t aM vM ++ (oW t aO u.2)))) (fun u => (pm_2 (pm_l pm_0) (pm_r (pm_r pm_0))).symm) (r_runSW X hw (c_L_append l D t aX aO vX vO (xs (i + 1)) _ hfl h) (pm_2 (pm_l pm_0) (pm_r (pm_r pm_0))) (vx_cwSW 3 X.1.2.2.2.2 gL_law_L_append rfl rfl rfl (by decide +kernel) ⟨Nat.le_of_ble_eq_true rfl, Nat.le_of_ble_eq_true rfl⟩) rfl hl rfl (Nat.le_of_ble_eq_true rfl) dL_law_718 ⟨by show 100 + i + 0 + 1 ≤ 601024; omega, by show 3000 + 6 * i + 0 + 6 ≤ 7293034; omega⟩) (fun r_138 u H locs h hw => ?_)
  obtain ⟨vX_136, vO_137⟩ := u
  refine lv_istore (lv' := [(5, .int r_138), (0, .ref b), (1, .ref (XA.o aX)), (2, .ref (MA.o aM)), (3, .ref aO), (4, .int (nI i))]) hx hb dL_law_721 hl (by decide) rfl (fun ls hl => ?_)
  refine lv_aload_n hx hb dL_law_723 rfl (lv_at hl 3 rfl) ?_
  refine lv_aload_n hx hb dL_law_724 rfl (lv_at hl 1 rfl) ?_
  refine lv_iload hx hb dL_law_725 (lv_at hl 5 rfl) ?_
  refine lv_iconst (v := 1) hx hb dL_law_727 (by decide) ?_
  refine lv_iadd hx hb dL_law_728 ?_
  refine lv_topi (fun q_139 eq_139 => ?_)
  obtain rfl : q_139 = nI (i + 1) := eq_139.trans (nI_p1 i)
  refine r_sld X hw hX hbl hbA hL (j := (i + 1)) (by omega) dL_law_729 ?_
  refine r_ci X hw (pm_r (pm_l pm_0)) (wn := fun (u : MV) => (xW t aX vX_136 ++ (mW t aM u ++ (oW t aO vO_137)))) (fun u => (pm_r (pm_l pm_0)).symm) (r_runV X hw (c_X7_append l D t aM vM (xs (i + 1)) _ h) (pm_r (pm_l pm_0)) (cwV 1 X.1.2.2.2.2 gL_law_X7_append rfl rfl rfl (by decide +kernel) ⟨Nat.le_of_ble_eq_true rfl, Nat.le_of_ble_eq_true rfl⟩) (ci := 7) rfl rfl rfl rfl hl rfl (Nat.le_of_ble_eq_true rfl) dL_law_730 ⟨by show 100 + i + 1 + 0 ≤ 601024; omega, by show 3000 + 6 * i + 6 + 0 ≤ 7293034; omega⟩) (fun r_141 u H locs h hw => ?_)
  obtain ⟨vM_140, rfl⟩ : ∃ z, z = u := ⟨_, rfl⟩
  refine lv_istore (lv' := [(6, .int r_141), (5, .int r_138), (0, .ref b), (1, .ref (XA.o aX)), (2, .ref (MA.o aM)), (3, .ref aO), (4, .int (nI i))]) hx hb dL_law_733 hl (by decide) rfl (fun ls hl => ?_)
  refine lv_aload_n hx hb dL_law_735 rfl (lv_at hl 4 rfl) ?_
  refine r_ci X hw (pm_r (pm_l pm_0)) (wn := fun (u : MV) => (xW t aX vX_136 ++ (mW t aM u ++ (oW t aO vO_137)))) (fun u => (pm_r (pm_l pm_0)).symm) (r_runV X hw (c_X7_thrown l D t aM vM_140 _ h) (pm_r (pm_l pm_0)) (cwV 0 X.1.2.2.2.2 gL_law_X7_thrown rfl rfl rfl (by decide +kernel) ⟨Nat.le_of_ble_eq_true rfl, Nat.le_of_ble_eq_true rfl⟩) (ci := 7) rfl rfl rfl rfl hl rfl (Nat.le_of_ble_eq_true rfl) dL_law_736 ⟨by show 100 + i + 1 + 0 ≤ 601024; omega, by show 3000 + 6 * i + 6 + 0 ≤ 7293034; omega⟩) (fun r_143 u H locs h hw => ?_)
  obtain ⟨vM_142, rfl⟩ : ∃ z, z = u := ⟨_, rfl⟩
  refine lv_iload hx hb dL_law_739 (lv_at hl 1 rfl) ?_
  refine lv_icmp_eq (tgt := 746) hx hb dL_law_741 (by decide) (fun c_146 => ?_) (fun c_146 => ?_)
  · replace h := h.1 c_146
    refine lv_iload hx hb dL_law_746 (lv_at hl 1 rfl) ?_
    refine lv_if_ne (tgt := 763) hx hb dL_law_748 (by decide) (fun c_145 => ?_) (fun c_145 => ?_)
    · replace h := h.1 c_145
      exact k_L_law_763 X hfl hL hi hX hbl hbA aX aM aO hN _ _ _ _ _ _ h hw (lv_sub hl [2, 3, 4, 5, 6] rfl)
    replace h := h.2 c_145
    refine lv_aload_n hx hb dL_law_751 rfl (lv_at hl 5 rfl) ?_
    refine lv_iconst (v := 0) hx hb dL_law_752 (by decide) ?_
    refine r_lald (v := (vO_137 0)) X hw 69 rfl (vpl rfl) rfl dL_law_753 ?_
    refine lv_iload hx hb dL_law_754 (lv_at hl 0 rfl) ?_
    refine lv_i2l (v := Int32.toInt64 r_141) hx hb dL_law_756 rfl ?_
    refine W.lcmp hx hb dL_law_757 ?_
    refine lv_if_eq (tgt := 763) hx hb dL_law_758 (by decide) (fun c_144 => ?_) (fun c_144 => ?_)
    · replace h := h.1 c_144
      exact k_L_law_763 X hfl hL hi hX hbl hbA aX aM aO hN _ _ _ _ _ _ h hw (lv_sub hl [2, 3, 4, 5, 6] rfl)
    replace h := h.2 c_144
    refine lv_iconst (v := 0) hx hb dL_law_761 (by decide) ?_
    exact absurd h id
  replace h := h.2 c_146
  refine lv_iconst (v := 0) hx hb dL_law_744 (by decide) ?_
  exact absurd h id
def wp_L_law_766 (xs : Nat → Int32) (i : Nat) (N : XV → MV → OV → Prop) (vX : XV) (vM : MV) (vO : OV) : Prop := wp_X6_clearBuffer vX  (fun (r_149 : Int32) (vX_148 : XV) => wp_X7_clearBuffer vM  (fun (r_151 : Int32) (vM_150 : MV) => (r_149 = r_151 → N vX_148 vM_150 vO) ∧ (¬ r_149 = r_151 → False)))
set_option maxHeartbeats 4000000 in
set_option maxRecDepth 100000 in
theorem k_L_law_766 {p : Program} {l : Launch} {e : Env} {s : State} {m : MethodId} {below : List Frame} {meth : Method} {c : Code} {args : Array Value} {D : va_G} {t : T3} {A : Nat → Prop} {Z : State → Prop} {b L i : Nat} {xs : Nat → Int32} (X : Cx p s m meth c args cL_law 9 (some .boolean) RL wsL_law D t A) (hfl : l.stackTraces = false) (hL : L ≤ 2048) (hi : i + 4 ≤ L) (hX : va_X b L xs s s.heap) (hbl : b < s.heap.size) (hbA : ¬ A b) (aX : XA) (aM : MA) (aO : Nat) {N : XV → MV → OV → Prop} (hN : ∀ (vX : XV) (vM : MV) (vO : OV) (H : Heap) (locs : List Loc) (ls : Array Slot), N vX vM vO → Wd D A s.heap (xW t aX vX ++ (mW t aM vM ++ (oW t aO vO))) H locs → lv_has ls 9 [(0, .ref b), (1, .ref (XA.o aX)), (2, .ref (MA.o aM)), (3, .ref aO), (4, .int (nI i))] → W p l e room_1 s m args below meth c H locs (100 + i + 4) (3000 + 6 * i + 24) Z (F0 m 1385 ls [])) : ∀ (vX : XV) (vM : MV) (vO : OV) (H : Heap) (locs : List Loc) (ls : Array Slot), wp_L_law_766 xs i N vX vM vO → Wd D A s.heap (xW t aX vX ++ (mW t aM vM ++ (oW t aO vO))) H locs → lv_has ls 9 [(0, .ref b), (1, .ref (XA.o aX)), (2, .ref (MA.o aM)), (3, .ref aO), (4, .int (nI i))] → W p l e room_1 s m args below meth c H locs (100 + i) (3000 + 6 * i) Z (F0 m 766 ls []) := by
  intro vX vM vO H locs ls h hw hl
  have hx := X.1.1
  have hb := X.1.2.1
  refine lv_aload_n hx hb dL_law_766 rfl (lv_at hl 1 rfl) ?_
  refine r_ci X hw (pm_l pm_0) (wn := fun (u : XV) => (xW t aX u ++ (mW t aM vM ++ (oW t aO vO)))) (fun u => (pm_l pm_0).symm) (r_runV X hw (c_X6_clearBuffer l D t aX vX _ h) (pm_l pm_0) (cwV 0 X.1.2.2.2.2 gL_law_X6_clearBuffer rfl rfl rfl (by decide +kernel) ⟨Nat.le_of_ble_eq_true rfl, Nat.le_of_ble_eq_true rfl⟩) (ci := 6) rfl rfl rfl rfl hl rfl (Nat.le_of_ble_eq_true rfl) dL_law_767 ⟨by show 100 + i + 0 + 0 ≤ 601024; omega, by show 3000 + 6 * i + 0 + 0 ≤ 7293034; omega⟩) (fun r_149 u H locs h hw => ?_)
  obtain ⟨vX_148, rfl⟩ : ∃ z, z = u := ⟨_, rfl⟩
  refine lv_aload_n hx hb dL_law_770 rfl (lv_at hl 2 rfl) ?_
  refine r_ci X hw (pm_r (pm_l pm_0)) (wn := fun (u : MV) => (xW t aX vX_148 ++ (mW t aM u ++ (oW t aO vO)))) (fun u => (pm_r (pm_l pm_0)).symm) (r_runV X hw (c_X7_clearBuffer l D t aM vM _ h) (pm_r (pm_l pm_0)) (cwV 0 X.1.2.2.2.2 gL_law_X7_clearBuffer rfl rfl rfl (by decide +kernel) ⟨Nat.le_of_ble_eq_true rfl, Nat.le_of_ble_eq_true rfl⟩) (ci := 7) rfl rfl rfl rfl hl rfl (Nat.le_of_ble_eq_true rfl) dL_law_771 ⟨by show 100 + i + 0 + 0 ≤ 601024; omega, by show 3000 + 6 * i + 0 + 0 ≤ 7293034; omega⟩) (fun r_151 u H locs h hw => ?_)
  obtain ⟨vM_150, rfl⟩ : ∃ z, z = u := ⟨_, rfl⟩
  refine lv_icmp_eq (tgt := 1385) hx hb dL_law_774 (by decide) (fun c_152 => ?_) (fun c_152 => ?_)
  · replace h := h.1 c_152
    refine W.widen (k := 100 + i + 4) (n := 3000 + 6 * i + 24) (by omega) (by omega) ?_
    exact hN _ _ _ _ _ _ h hw hl
  replace h := h.2 c_152
  refine lv_iconst (v := 0) hx hb dL_law_777 (by decide) ?_
  exact absurd h id
def wp_L_law_779 (xs : Nat → Int32) (i : Nat) (N : XV → MV → OV → Prop) (vX : XV) (vM : MV) (vO : OV) : Prop := wp_X6_firstError vX  (fun (r_155 : Int32) (vX_154 : XV) => wp_X7_firstError vM  (fun (r_157 : Int32) (vM_156 : MV) => (r_155 = r_157 → N vX_154 vM_156 vO) ∧ (¬ r_155 = r_157 → False)))
set_option maxHeartbeats 4000000 in
set_option maxRecDepth 100000 in
theorem k_L_law_779 {p : Program} {l : Launch} {e : Env} {s : State} {m : MethodId} {below : List Frame} {meth : Method} {c : Code} {args : Array Value} {D : va_G} {t : T3} {A : Nat → Prop} {Z : State → Prop} {b L i : Nat} {xs : Nat → Int32} (X : Cx p s m meth c args cL_law 9 (some .boolean) RL wsL_law D t A) (hfl : l.stackTraces = false) (hL : L ≤ 2048) (hi : i + 4 ≤ L) (hX : va_X b L xs s s.heap) (hbl : b < s.heap.size) (hbA : ¬ A b) (aX : XA) (aM : MA) (aO : Nat) {N : XV → MV → OV → Prop} (hN : ∀ (vX : XV) (vM : MV) (vO : OV) (H : Heap) (locs : List Loc) (ls : Array Slot), N vX vM vO → Wd D A s.heap (xW t aX vX ++ (mW t aM vM ++ (oW t aO vO))) H locs → lv_has ls 9 [(0, .ref b), (1, .ref (XA.o aX)), (2, .ref (MA.o aM)), (3, .ref aO), (4, .int (nI i))] → W p l e room_1 s m args below meth c H locs (100 + i + 4) (3000 + 6 * i + 24) Z (F0 m 1385 ls [])) : ∀ (vX : XV) (vM : MV) (vO : OV) (H : Heap) (locs : List Loc) (ls : Array Slot), wp_L_law_779 xs i N vX vM vO → Wd D A s.heap (xW t aX vX ++ (mW t aM vM ++ (oW t aO vO))) H locs → lv_has ls 9 [(0, .ref b), (1, .ref (XA.o aX)), (2, .ref (MA.o aM)), (3, .ref aO), (4, .int (nI i))] → W p l e room_1 s m args below meth c H locs (100 + i) (3000 + 6 * i) Z (F0 m 779 ls []) := by
  intro vX vM vO H locs ls h hw hl
  have hx := X.1.1
  have hb := X.1.2.1
  refine lv_aload_n hx hb dL_law_779 rfl (lv_at hl 1 rfl) ?_
  refine r_ci X hw (pm_l pm_0) (wn := fun (u : XV) => (xW t aX u ++ (mW t aM vM ++ (oW t aO vO)))) (fun u => (pm_l pm_0).symm) (r_runV X hw (c_X6_firstError l D t aX vX _ h) (pm_l pm_0) (cwV 0 X.1.2.2.2.2 gL_law_X6_firstError rfl rfl rfl (by decide +kernel) ⟨Nat.le_of_ble_eq_true rfl, Nat.le_of_ble_eq_true rfl⟩) (ci := 6) rfl rfl rfl rfl hl rfl (Nat.le_of_ble_eq_true rfl) dL_law_780 ⟨by show 100 + i + 0 + 0 ≤ 601024; omega, by show 3000 + 6 * i + 0 + 0 ≤ 7293034; omega⟩) (fun r_155 u H locs h hw => ?_)
  obtain ⟨vX_154, rfl⟩ : ∃ z, z = u := ⟨_, rfl⟩
  refine lv_aload_n hx hb dL_law_783 rfl (lv_at hl 2 rfl) ?_
  refine r_ci X hw (pm_r (pm_l pm_0)) (wn := fun (u : MV) => (xW t aX vX_154 ++ (mW t aM u ++ (oW t aO vO)))) (fun u => (pm_r (pm_l pm_0)).symm) (r_runV X hw (c_X7_firstError l D t aM vM _ h) (pm_r (pm_l pm_0)) (cwV 0 X.1.2.2.2.2 gL_law_X7_firstError rfl rfl rfl (by decide +kernel) ⟨Nat.le_of_ble_eq_true rfl, Nat.le_of_ble_eq_true rfl⟩) (ci := 7) rfl rfl rfl rfl hl rfl (Nat.le_of_ble_eq_true rfl) dL_law_784 ⟨by show 100 + i + 0 + 0 ≤ 601024; omega, by show 3000 + 6 * i + 0 + 0 ≤ 7293034; omega⟩) (fun r_157 u H locs h hw => ?_)
  obtain ⟨vM_156, rfl⟩ : ∃ z, z = u := ⟨_, rfl⟩
  refine lv_icmp_eq (tgt := 1385) hx hb dL_law_787 (by decide) (fun c_158 => ?_) (fun c_158 => ?_)
  · replace h := h.1 c_158
    refine W.widen (k := 100 + i + 4) (n := 3000 + 6 * i + 24) (by omega) (by omega) ?_
    exact hN _ _ _ _ _ _ h hw hl
  replace h := h.2 c_158
  refine lv_iconst (v := 0) hx hb dL_law_790 (by decide) ?_
  exact absurd h id
def wp_L_law_833 (xs : Nat → Int32) (i : Nat) (N : XV → MV → OV → Prop) (vX : XV) (vM : MV) (vO : OV) : Prop := N vX vM vO
set_option maxHeartbeats 4000000 in
set_option maxRecDepth 100000 in
theorem k_L_law_833 {p : Program} {l : Launch} {e : Env} {s : State} {m : MethodId} {below : List Frame} {meth : Method} {c : Code} {args : Array Value} {D : va_G} {t : T3} {A : Nat → Prop} {Z : State → Prop} {b L i : Nat} {xs : Nat → Int32} (X : Cx p s m meth c args cL_law 9 (some .boolean) RL wsL_law D t A) (hfl : l.stackTraces = false) (hL : L ≤ 2048) (hi : i + 4 ≤ L) (hX : va_X b L xs s s.heap) (hbl : b < s.heap.size) (hbA : ¬ A b) (aX : XA) (aM : MA) (aO : Nat) {N : XV → MV → OV → Prop} (hN : ∀ (vX : XV) (vM : MV) (vO : OV) (H : Heap) (locs : List Loc) (ls : Array Slot), N vX vM vO → Wd D A s.heap (xW t aX vX ++ (mW t aM vM ++ (oW t aO vO))) H locs → lv_has ls 9 [(0, .ref b), (1, .ref (XA.o aX)), (2, .ref (MA.o aM)), (3, .ref aO), (4, .int (nI i))] → W p l e room_1 s m args below meth c H locs (100 + i + 4) (3000 + 6 * i + 24) Z (F0 m 1385 ls [])) : ∀ (vX : XV) (vM : MV) (vO : OV) (H : Heap) (locs : List Loc) (ls : Array Slot), wp_L_law_833 xs i N vX vM vO → Wd D A s.heap (xW t aX vX ++ (mW t aM vM ++ (oW t aO vO))) H locs → lv_has ls 9 [(0, .ref b), (1, .ref (XA.o aX)), (2, .ref (MA.o aM)), (3, .ref aO), (4, .int (nI i))] → W p l e room_1 s m args below meth c H locs (100 + i + 1) (3000 + 6 * i + 6) Z (F0 m 833 ls []) := by
  intro vX vM vO H locs ls h hw hl
  have hx := X.1.1
  have hb := X.1.2.1
  refine lv_goto (tgt := 1385) hx hb dL_law_833 (by decide) ?_
  refine W.widen (k := 100 + i + 4) (n := 3000 + 6 * i + 24) (by omega) (by omega) ?_
  exact hN _ _ _ _ _ _ h hw hl
def wp_L_law_792 (xs : Nat → Int32) (i : Nat) (N : XV → MV → OV → Prop) (vX : XV) (vM : MV) (vO : OV) : Prop := wp_L_load vX vO  (fun (r_162 : Int32) (vX_160 : XV) (vO_161 : OV) => wp_X7_load vM  (fun (r_164 : Int32) (vM_163 : MV) => wp_X7_thrown vM_163  (fun (r_166 : Int32) (vM_165 : MV) => (r_166 = r_162 → (¬ r_162 = 0 → wp_L_law_833 xs i N vX_160 vM_165 vO_161) ∧ (r_162 = 0 → ((lg_cmp (vO_161 0) (Int32.toInt64 r_164)) = 0 → wp_L_law_833 xs i N vX_160 vM_165 vO_161) ∧ (¬ (lg_cmp (vO_161 0) (Int32.toInt64 r_164)) = 0 → False))) ∧ (¬ r_166 = r_162 → False))))
set_option maxHeartbeats 4000000 in
set_option maxRecDepth 100000 in
theorem k_L_law_792 {p : Program} {l : Launch} {e : Env} {s : State} {m : MethodId} {below : List Frame} {meth : Method} {c : Code} {args : Array Value} {D : va_G} {t : T3} {A : Nat → Prop} {Z : State → Prop} {b L i : Nat} {xs : Nat → Int32} (X : Cx p s m meth c args cL_law 9 (some .boolean) RL wsL_law D t A) (hfl : l.stackTraces = false) (hL : L ≤ 2048) (hi : i + 4 ≤ L) (hX : va_X b L xs s s.heap) (hbl : b < s.heap.size) (hbA : ¬ A b) (aX : XA) (aM : MA) (aO : Nat) {N : XV → MV → OV → Prop} (hN : ∀ (vX : XV) (vM : MV) (vO : OV) (H : Heap) (locs : List Loc) (ls : Array Slot), N vX vM vO → Wd D A s.heap (xW t aX vX ++ (mW t aM vM ++ (oW t aO vO))) H locs → lv_has ls 9 [(0, .ref b), (1, .ref (XA.o aX)), (2, .ref (MA.o aM)), (3, .ref aO), (4, .int (nI i))] → W p l e room_1 s m args below meth c H locs (100 + i + 4) (3000 + 6 * i + 24) Z (F0 m 1385 ls [])) : ∀ (vX : XV) (vM : MV) (vO : OV) (H : Heap) (locs : List Loc) (ls : Array Slot), wp_L_law_792 xs i N vX vM vO → Wd D A s.heap (xW t aX vX ++ (mW t aM vM ++ (oW t aO vO))) H locs → lv_has ls 9 [(0, .ref b), (1, .ref (XA.o aX)), (2, .ref (MA.o aM)), (3, .ref aO), (4, .int (nI i))] → W p l e room_1 s m args below meth c H locs (100 + i) (3000 + 6 * i) Z (F0 m 792 ls []) := by
  intro vX vM vO H locs ls h hw hl
  have hx := X.1.1
  have hb := X.1.2.1
  refine lv_aload_n hx hb dL_law_792 rfl (lv_at hl 1 rfl) ?_
  refine lv_aload_n hx hb dL_law_793 rfl (lv_at hl 3 rfl) ?_
  refine r_ci X hw (pm_2 (pm_l pm_0) (pm_r (pm_r pm_0))) (wn := fun (u : XV × OV) => (xW t aX u.1 ++ (mW t aM vM ++ (oW t aO u.2)))) (fun u => (pm_2 (pm_l pm_0) (pm_r (pm_r pm_0))).symm) (r_runSW X hw (c_L_load l D t aX aO vX vO _ hfl h) (pm_2 (pm_l pm_0) (pm_r (pm_r pm_0))) (vx_cwSW 2 X.1.2.2.2.2 gL_law_L_load rfl rfl rfl (by decide +kernel) ⟨Nat.le_of_ble_eq_true rfl, Nat.le_of_ble_eq_true rfl⟩) rfl hl rfl (Nat.le_of_ble_eq_true rfl) dL_law_794 ⟨by show 100 + i + 0 + 1 ≤ 601024; omega, by show 3000 + 6 * i + 0 + 6 ≤ 7293034; omega⟩) (fun r_162 u H locs h hw => ?_)
  obtain ⟨vX_160, vO_161⟩ := u
  refine lv_istore (lv' := [(5, .int r_162), (0, .ref b), (1, .ref (XA.o aX)), (2, .ref (MA.o aM)), (3, .ref aO), (4, .int (nI i))]) hx hb dL_law_797 hl (by decide) rfl (fun ls hl => ?_)
  refine lv_aload_n hx hb dL_law_799 rfl (lv_at hl 3 rfl) ?_
  refine r_ci X hw (pm_r (pm_l pm_0)) (wn := fun (u : MV) => (xW t aX vX_160 ++ (mW t aM u ++ (oW t aO vO_161)))) (fun u => (pm_r (pm_l pm_0)).symm) (r_runV X hw (c_X7_load l D t aM vM _ h) (pm_r (pm_l pm_0)) (cwV 0 X.1.2.2.2.2 gL_law_X7_load rfl rfl rfl (by decide +kernel) ⟨Nat.le_of_ble_eq_true rfl, Nat.le_of_ble_eq_true rfl⟩) (ci := 7) rfl rfl rfl rfl hl rfl (Nat.le_of_ble_eq_true rfl) dL_law_800 ⟨by show 100 + i + 1 + 0 ≤ 601024; omega, by show 3000 + 6 * i + 6 + 0 ≤ 7293034; omega⟩) (fun r_164 u H locs h hw => ?_)
  obtain ⟨vM_163, rfl⟩ : ∃ z, z = u := ⟨_, rfl⟩
  refine lv_istore (lv' := [(6, .int r_164), (5, .int r_162), (0, .ref b), (1, .ref (XA.o aX)), (2, .ref (MA.o aM)), (3, .ref aO), (4, .int (nI i))]) hx hb dL_law_803 hl (by decide) rfl (fun ls hl => ?_)
  refine lv_aload_n hx hb dL_law_805 rfl (lv_at hl 4 rfl) ?_
  refine r_ci X hw (pm_r (pm_l pm_0)) (wn := fun (u : MV) => (xW t aX vX_160 ++ (mW t aM u ++ (oW t aO vO_161)))) (fun u => (pm_r (pm_l pm_0)).symm) (r_runV X hw (c_X7_thrown l D t aM vM_163 _ h) (pm_r (pm_l pm_0)) (cwV 0 X.1.2.2.2.2 gL_law_X7_thrown rfl rfl rfl (by decide +kernel) ⟨Nat.le_of_ble_eq_true rfl, Nat.le_of_ble_eq_true rfl⟩) (ci := 7) rfl rfl rfl rfl hl rfl (Nat.le_of_ble_eq_true rfl) dL_law_806 ⟨by show 100 + i + 1 + 0 ≤ 601024; omega, by show 3000 + 6 * i + 6 + 0 ≤ 7293034; omega⟩) (fun r_166 u H locs h hw => ?_)
  obtain ⟨vM_165, rfl⟩ : ∃ z, z = u := ⟨_, rfl⟩
  refine lv_iload hx hb dL_law_809 (lv_at hl 1 rfl) ?_
  refine lv_icmp_eq (tgt := 816) hx hb dL_law_811 (by decide) (fun c_169 => ?_) (fun c_169 => ?_)
  · replace h := h.1 c_169
    refine lv_iload hx hb dL_law_816 (lv_at hl 1 rfl) ?_
    refine lv_if_ne (tgt := 833) hx hb dL_law_818 (by decide) (fun c_168 => ?_) (fun c_168 => ?_)
    · replace h := h.1 c_168
      exact k_L_law_833 X hfl hL hi hX hbl hbA aX aM aO hN _ _ _ _ _ _ h hw (lv_sub hl [2, 3, 4, 5, 6] rfl)
    replace h := h.2 c_168
    refine lv_aload_n hx hb dL_law_821 rfl (lv_at hl 5 rfl) ?_
    refine lv_iconst (v := 0) hx hb dL_law_822 (by decide) ?_
    refine r_lald (v := (vO_161 0)) X hw 69 rfl (vpl rfl) rfl dL_law_823 ?_
    refine lv_iload hx hb dL_law_824 (lv_at hl 0 rfl) ?_
    refine lv_i2l (v := Int32.toInt64 r_164) hx hb dL_law_826 rfl ?_
    refine W.lcmp hx hb dL_law_827 ?_
    refine lv_if_eq (tgt := 833) hx hb dL_law_828 (by decide) (fun c_167 => ?_) (fun c_167 => ?_)
    · replace h := h.1 c_167
      exact k_L_law_833 X hfl hL hi hX hbl hbA aX aM aO hN _ _ _ _ _ _ h hw (lv_sub hl [2, 3, 4, 5, 6] rfl)
    replace h := h.2 c_167
    refine lv_iconst (v := 0) hx hb dL_law_831 (by decide) ?_
    exact absurd h id
  replace h := h.2 c_169
  refine lv_iconst (v := 0) hx hb dL_law_814 (by decide) ?_
  exact absurd h id
def wp_L_law_877 (xs : Nat → Int32) (i : Nat) (N : XV → MV → OV → Prop) (vX : XV) (vM : MV) (vO : OV) : Prop := N vX vM vO
set_option maxHeartbeats 4000000 in
set_option maxRecDepth 100000 in
theorem k_L_law_877 {p : Program} {l : Launch} {e : Env} {s : State} {m : MethodId} {below : List Frame} {meth : Method} {c : Code} {args : Array Value} {D : va_G} {t : T3} {A : Nat → Prop} {Z : State → Prop} {b L i : Nat} {xs : Nat → Int32} (X : Cx p s m meth c args cL_law 9 (some .boolean) RL wsL_law D t A) (hfl : l.stackTraces = false) (hL : L ≤ 2048) (hi : i + 4 ≤ L) (hX : va_X b L xs s s.heap) (hbl : b < s.heap.size) (hbA : ¬ A b) (aX : XA) (aM : MA) (aO : Nat) {N : XV → MV → OV → Prop} (hN : ∀ (vX : XV) (vM : MV) (vO : OV) (H : Heap) (locs : List Loc) (ls : Array Slot), N vX vM vO → Wd D A s.heap (xW t aX vX ++ (mW t aM vM ++ (oW t aO vO))) H locs → lv_has ls 9 [(0, .ref b), (1, .ref (XA.o aX)), (2, .ref (MA.o aM)), (3, .ref aO), (4, .int (nI i))] → W p l e room_1 s m args below meth c H locs (100 + i + 4) (3000 + 6 * i + 24) Z (F0 m 1385 ls [])) : ∀ (vX : XV) (vM : MV) (vO : OV) (H : Heap) (locs : List Loc) (ls : Array Slot), wp_L_law_877 xs i N vX vM vO → Wd D A s.heap (xW t aX vX ++ (mW t aM vM ++ (oW t aO vO))) H locs → lv_has ls 9 [(0, .ref b), (1, .ref (XA.o aX)), (2, .ref (MA.o aM)), (3, .ref aO), (4, .int (nI i))] → W p l e room_1 s m args below meth c H locs (100 + i + 1) (3000 + 6 * i + 6) Z (F0 m 877 ls []) := by
  intro vX vM vO H locs ls h hw hl
  have hx := X.1.1
  have hb := X.1.2.1
  refine lv_goto (tgt := 1385) hx hb dL_law_877 (by decide) ?_
  refine W.widen (k := 100 + i + 4) (n := 3000 + 6 * i + 24) (by omega) (by omega) ?_
  exact hN _ _ _ _ _ _ h hw hl
def wp_L_law_836 (xs : Nat → Int32) (i : Nat) (N : XV → MV → OV → Prop) (vX : XV) (vM : MV) (vO : OV) : Prop := wp_L_undo vX vO  (fun (r_173 : Int32) (vX_171 : XV) (vO_172 : OV) => wp_X7_undo vM  (fun (r_175 : Int32) (vM_174 : MV) => wp_X7_thrown vM_174  (fun (r_177 : Int32) (vM_176 : MV) => (r_177 = r_173 → (¬ r_173 = 0 → wp_L_law_877 xs i N vX_171 vM_176 vO_172) ∧ (r_173 = 0 → ((lg_cmp (vO_172 0) (Int32.toInt64 r_175)) = 0 → wp_L_law_877 xs i N vX_171 vM_176 vO_172) ∧ (¬ (lg_cmp (vO_172 0) (Int32.toInt64 r_175)) = 0 → False))) ∧ (¬ r_177 = r_173 → False))))
set_option maxHeartbeats 4000000 in
set_option maxRecDepth 100000 in
theorem k_L_law_836 {p : Program} {l : Launch} {e : Env} {s : State} {m : MethodId} {below : List Frame} {meth : Method} {c : Code} {args : Array Value} {D : va_G} {t : T3} {A : Nat → Prop} {Z : State → Prop} {b L i : Nat} {xs : Nat → Int32} (X : Cx p s m meth c args cL_law 9 (some .boolean) RL wsL_law D t A) (hfl : l.stackTraces = false) (hL : L ≤ 2048) (hi : i + 4 ≤ L) (hX : va_X b L xs s s.heap) (hbl : b < s.heap.size) (hbA : ¬ A b) (aX : XA) (aM : MA) (aO : Nat) {N : XV → MV → OV → Prop} (hN : ∀ (vX : XV) (vM : MV) (vO : OV) (H : Heap) (locs : List Loc) (ls : Array Slot), N vX vM vO → Wd D A s.heap (xW t aX vX ++ (mW t aM vM ++ (oW t aO vO))) H locs → lv_has ls 9 [(0, .ref b), (1, .ref (XA.o aX)), (2, .ref (MA.o aM)), (3, .ref aO), (4, .int (nI i))] → W p l e room_1 s m args below meth c H locs (100 + i + 4) (3000 + 6 * i + 24) Z (F0 m 1385 ls [])) : ∀ (vX : XV) (vM : MV) (vO : OV) (H : Heap) (locs : List Loc) (ls : Array Slot), wp_L_law_836 xs i N vX vM vO → Wd D A s.heap (xW t aX vX ++ (mW t aM vM ++ (oW t aO vO))) H locs → lv_has ls 9 [(0, .ref b), (1, .ref (XA.o aX)), (2, .ref (MA.o aM)), (3, .ref aO), (4, .int (nI i))] → W p l e room_1 s m args below meth c H locs (100 + i) (3000 + 6 * i) Z (F0 m 836 ls []) := by
  intro vX vM vO H locs ls h hw hl
  have hx := X.1.1
  have hb := X.1.2.1
  refine lv_aload_n hx hb dL_law_836 rfl (lv_at hl 1 rfl) ?_
  refine lv_aload_n hx hb dL_law_837 rfl (lv_at hl 3 rfl) ?_
  refine r_ci X hw (pm_2 (pm_l pm_0) (pm_r (pm_r pm_0))) (wn := fun (u : XV × OV) => (xW t aX u.1 ++ (mW t aM vM ++ (oW t aO u.2)))) (fun u => (pm_2 (pm_l pm_0) (pm_r (pm_r pm_0))).symm) (r_runSW X hw (c_L_undo l D t aX aO vX vO _ hfl h) (pm_2 (pm_l pm_0) (pm_r (pm_r pm_0))) (vx_cwSW 2 X.1.2.2.2.2 gL_law_L_undo rfl rfl rfl (by decide +kernel) ⟨Nat.le_of_ble_eq_true rfl, Nat.le_of_ble_eq_true rfl⟩) rfl hl rfl (Nat.le_of_ble_eq_true rfl) dL_law_838 ⟨by show 100 + i + 0 + 1 ≤ 601024; omega, by show 3000 + 6 * i + 0 + 6 ≤ 7293034; omega⟩) (fun r_173 u H locs h hw => ?_)
  obtain ⟨vX_171, vO_172⟩ := u
  refine lv_istore (lv' := [(5, .int r_173), (0, .ref b), (1, .ref (XA.o aX)), (2, .ref (MA.o aM)), (3, .ref aO), (4, .int (nI i))]) hx hb dL_law_841 hl (by decide) rfl (fun ls hl => ?_)
  refine lv_aload_n hx hb dL_law_843 rfl (lv_at hl 3 rfl) ?_
  refine r_ci X hw (pm_r (pm_l pm_0)) (wn := fun (u : MV) => (xW t aX vX_171 ++ (mW t aM u ++ (oW t aO vO_172)))) (fun u => (pm_r (pm_l pm_0)).symm) (r_runV X hw (c_X7_undo l D t aM vM _ h) (pm_r (pm_l pm_0)) (cwV 0 X.1.2.2.2.2 gL_law_X7_undo rfl rfl rfl (by decide +kernel) ⟨Nat.le_of_ble_eq_true rfl, Nat.le_of_ble_eq_true rfl⟩) (ci := 7) rfl rfl rfl rfl hl rfl (Nat.le_of_ble_eq_true rfl) dL_law_844 ⟨by show 100 + i + 1 + 0 ≤ 601024; omega, by show 3000 + 6 * i + 6 + 0 ≤ 7293034; omega⟩) (fun r_175 u H locs h hw => ?_)
  obtain ⟨vM_174, rfl⟩ : ∃ z, z = u := ⟨_, rfl⟩
  refine lv_istore (lv' := [(6, .int r_175), (5, .int r_173), (0, .ref b), (1, .ref (XA.o aX)), (2, .ref (MA.o aM)), (3, .ref aO), (4, .int (nI i))]) hx hb dL_law_847 hl (by decide) rfl (fun ls hl => ?_)
  refine lv_aload_n hx hb dL_law_849 rfl (lv_at hl 4 rfl) ?_
  refine r_ci X hw (pm_r (pm_l pm_0)) (wn := fun (u : MV) => (xW t aX vX_171 ++ (mW t aM u ++ (oW t aO vO_172)))) (fun u => (pm_r (pm_l pm_0)).symm) (r_runV X hw (c_X7_thrown l D t aM vM_174 _ h) (pm_r (pm_l pm_0)) (cwV 0 X.1.2.2.2.2 gL_law_X7_thrown rfl rfl rfl (by decide +kernel) ⟨Nat.le_of_ble_eq_true rfl, Nat.le_of_ble_eq_true rfl⟩) (ci := 7) rfl rfl rfl rfl hl rfl (Nat.le_of_ble_eq_true rfl) dL_law_850 ⟨by show 100 + i + 1 + 0 ≤ 601024; omega, by show 3000 + 6 * i + 6 + 0 ≤ 7293034; omega⟩) (fun r_177 u H locs h hw => ?_)
  obtain ⟨vM_176, rfl⟩ : ∃ z, z = u := ⟨_, rfl⟩
  refine lv_iload hx hb dL_law_853 (lv_at hl 1 rfl) ?_
  refine lv_icmp_eq (tgt := 860) hx hb dL_law_855 (by decide) (fun c_180 => ?_) (fun c_180 => ?_)
  · replace h := h.1 c_180
    refine lv_iload hx hb dL_law_860 (lv_at hl 1 rfl) ?_
    refine lv_if_ne (tgt := 877) hx hb dL_law_862 (by decide) (fun c_179 => ?_) (fun c_179 => ?_)
    · replace h := h.1 c_179
      exact k_L_law_877 X hfl hL hi hX hbl hbA aX aM aO hN _ _ _ _ _ _ h hw (lv_sub hl [2, 3, 4, 5, 6] rfl)
    replace h := h.2 c_179
    refine lv_aload_n hx hb dL_law_865 rfl (lv_at hl 5 rfl) ?_
    refine lv_iconst (v := 0) hx hb dL_law_866 (by decide) ?_
    refine r_lald (v := (vO_172 0)) X hw 69 rfl (vpl rfl) rfl dL_law_867 ?_
    refine lv_iload hx hb dL_law_868 (lv_at hl 0 rfl) ?_
    refine lv_i2l (v := Int32.toInt64 r_175) hx hb dL_law_870 rfl ?_
    refine W.lcmp hx hb dL_law_871 ?_
    refine lv_if_eq (tgt := 877) hx hb dL_law_872 (by decide) (fun c_178 => ?_) (fun c_178 => ?_)
    · replace h := h.1 c_178
      exact k_L_law_877 X hfl hL hi hX hbl hbA aX aM aO hN _ _ _ _ _ _ h hw (lv_sub hl [2, 3, 4, 5, 6] rfl)
    replace h := h.2 c_178
    refine lv_iconst (v := 0) hx hb dL_law_875 (by decide) ?_
    exact absurd h id
  replace h := h.2 c_180
  refine lv_iconst (v := 0) hx hb dL_law_858 (by decide) ?_
  exact absurd h id
def wp_L_law_945 (xs : Nat → Int32) (i : Nat) (N : XV → MV → OV → Prop) (vX : XV) (vM : MV) (vO : OV) : Prop := N vX vM vO
set_option maxHeartbeats 4000000 in
set_option maxRecDepth 100000 in
theorem k_L_law_945 {p : Program} {l : Launch} {e : Env} {s : State} {m : MethodId} {below : List Frame} {meth : Method} {c : Code} {args : Array Value} {D : va_G} {t : T3} {A : Nat → Prop} {Z : State → Prop} {b L i : Nat} {xs : Nat → Int32} (X : Cx p s m meth c args cL_law 9 (some .boolean) RL wsL_law D t A) (hfl : l.stackTraces = false) (hL : L ≤ 2048) (hi : i + 4 ≤ L) (hX : va_X b L xs s s.heap) (hbl : b < s.heap.size) (hbA : ¬ A b) (aX : XA) (aM : MA) (aO : Nat) {N : XV → MV → OV → Prop} (hN : ∀ (vX : XV) (vM : MV) (vO : OV) (H : Heap) (locs : List Loc) (ls : Array Slot), N vX vM vO → Wd D A s.heap (xW t aX vX ++ (mW t aM vM ++ (oW t aO vO))) H locs → lv_has ls 9 [(0, .ref b), (1, .ref (XA.o aX)), (2, .ref (MA.o aM)), (3, .ref aO), (4, .int (nI i))] → W p l e room_1 s m args below meth c H locs (100 + i + 4) (3000 + 6 * i + 24) Z (F0 m 1385 ls [])) : ∀ (vX : XV) (vM : MV) (vO : OV) (H : Heap) (locs : List Loc) (ls : Array Slot), wp_L_law_945 xs i N vX vM vO → Wd D A s.heap (xW t aX vX ++ (mW t aM vM ++ (oW t aO vO))) H locs → lv_has ls 9 [(0, .ref b), (1, .ref (XA.o aX)), (2, .ref (MA.o aM)), (3, .ref aO), (4, .int (nI i))] → W p l e room_1 s m args below meth c H locs (100 + i + 2) (3000 + 6 * i + 12) Z (F0 m 945 ls []) := by
  intro vX vM vO H locs ls h hw hl
  have hx := X.1.1
  have hb := X.1.2.1
  refine lv_goto (tgt := 1385) hx hb dL_law_945 (by decide) ?_
  refine W.widen (k := 100 + i + 4) (n := 3000 + 6 * i + 24) (by omega) (by omega) ?_
  exact hN _ _ _ _ _ _ h hw hl
def wp_L_law_880 (xs : Nat → Int32) (i : Nat) (N : XV → MV → OV → Prop) (vX : XV) (vM : MV) (vO : OV) : Prop := wp_L_cell vX vO (xs (i + 1)) (xs (i + 2)) (fun (r_186 : Int32) (vX_184 : XV) (vO_185 : OV) => wp_X7_cell vM (xs (i + 1)) (xs (i + 2)) (fun (r_190 : Int32) (vM_189 : MV) => wp_X7_thrown vM_189  (fun (r_192 : Int32) (vM_191 : MV) => (r_192 = r_186 → (¬ r_186 = 0 → wp_L_law_945 xs i N vX_184 vM_191 vO_185) ∧ (r_186 = 0 → ((lg_cmp (vO_185 0) (Int32.toInt64 r_190)) = 0 → wp_L_law_945 xs i N vX_184 vM_191 vO_185) ∧ (¬ (lg_cmp (vO_185 0) (Int32.toInt64 r_190)) = 0 → False))) ∧ (¬ r_192 = r_186 → False))))
set_option maxHeartbeats 4000000 in
set_option maxRecDepth 100000 in
theorem k_L_law_880 {p : Program} {l : Launch} {e : Env} {s : State} {m : MethodId} {below : List Frame} {meth : Method} {c : Code} {args : Array Value} {D : va_G} {t : T3} {A : Nat → Prop} {Z : State → Prop} {b L i : Nat} {xs : Nat → Int32} (X : Cx p s m meth c args cL_law 9 (some .boolean) RL wsL_law D t A) (hfl : l.stackTraces = false) (hL : L ≤ 2048) (hi : i + 4 ≤ L) (hX : va_X b L xs s s.heap) (hbl : b < s.heap.size) (hbA : ¬ A b) (aX : XA) (aM : MA) (aO : Nat) {N : XV → MV → OV → Prop} (hN : ∀ (vX : XV) (vM : MV) (vO : OV) (H : Heap) (locs : List Loc) (ls : Array Slot), N vX vM vO → Wd D A s.heap (xW t aX vX ++ (mW t aM vM ++ (oW t aO vO))) H locs → lv_has ls 9 [(0, .ref b), (1, .ref (XA.o aX)), (2, .ref (MA.o aM)), (3, .ref aO), (4, .int (nI i))] → W p l e room_1 s m args below meth c H locs (100 + i + 4) (3000 + 6 * i + 24) Z (F0 m 1385 ls [])) : ∀ (vX : XV) (vM : MV) (vO : OV) (H : Heap) (locs : List Loc) (ls : Array Slot), wp_L_law_880 xs i N vX vM vO → Wd D A s.heap (xW t aX vX ++ (mW t aM vM ++ (oW t aO vO))) H locs → lv_has ls 9 [(0, .ref b), (1, .ref (XA.o aX)), (2, .ref (MA.o aM)), (3, .ref aO), (4, .int (nI i))] → W p l e room_1 s m args below meth c H locs (100 + i) (3000 + 6 * i) Z (F0 m 880 ls []) := by
  intro vX vM vO H locs ls h hw hl
  have hx := X.1.1
  have hb := X.1.2.1
  refine lv_aload_n hx hb dL_law_880 rfl (lv_at hl 1 rfl) ?_
  refine lv_aload_n hx hb dL_law_881 rfl (lv_at hl 0 rfl) ?_
  refine lv_iload hx hb dL_law_882 (lv_at hl 4 rfl) ?_
  refine lv_iconst (v := 1) hx hb dL_law_884 (by decide) ?_
  refine lv_iadd hx hb dL_law_885 ?_
  refine lv_topi (fun q_182 eq_182 => ?_)
  obtain rfl : q_182 = nI (i + 1) := eq_182.trans (nI_p1 i)
  refine r_sld X hw hX hbl hbA hL (j := (i + 1)) (by omega) dL_law_886 ?_
  refine lv_aload_n hx hb dL_law_887 rfl (lv_at hl 0 rfl) ?_
  refine lv_iload hx hb dL_law_888 (lv_at hl 4 rfl) ?_
  refine lv_iconst (v := 2) hx hb dL_law_890 (by decide) ?_
  refine lv_iadd hx hb dL_law_891 ?_
  refine lv_topi (fun q_183 eq_183 => ?_)
  obtain rfl : q_183 = nI (i + 2) := eq_183.trans (nI_p2 i)
  refine r_sld X hw hX hbl hbA hL (j := (i + 2)) (by omega) dL_law_892 ?_
  refine lv_aload_n hx hb dL_law_893 rfl (lv_at hl 3 rfl) ?_
  refine r_ci X hw (pm_2 (pm_l pm_0) (pm_r (pm_r pm_0))) (wn := fun (u : XV × OV) => (xW t aX u.1 ++ (mW t aM vM ++ (oW t aO u.2)))) (fun u => (pm_2 (pm_l pm_0) (pm_r (pm_r pm_0))).symm) (r_runSW X hw (c_L_cell l D t aX aO vX vO (xs (i + 1)) (xs (i + 2)) _ hfl h) (pm_2 (pm_l pm_0) (pm_r (pm_r pm_0))) (vx_cwSW 4 X.1.2.2.2.2 gL_law_L_cell rfl rfl rfl (by decide +kernel) ⟨Nat.le_of_ble_eq_true rfl, Nat.le_of_ble_eq_true rfl⟩) rfl hl rfl (Nat.le_of_ble_eq_true rfl) dL_law_894 ⟨by show 100 + i + 0 + 2 ≤ 601024; omega, by show 3000 + 6 * i + 0 + 12 ≤ 7293034; omega⟩) (fun r_186 u H locs h hw => ?_)
  obtain ⟨vX_184, vO_185⟩ := u
  refine lv_istore (lv' := [(5, .int r_186), (0, .ref b), (1, .ref (XA.o aX)), (2, .ref (MA.o aM)), (3, .ref aO), (4, .int (nI i))]) hx hb dL_law_897 hl (by decide) rfl (fun ls hl => ?_)
  refine lv_aload_n hx hb dL_law_899 rfl (lv_at hl 3 rfl) ?_
  refine lv_aload_n hx hb dL_law_900 rfl (lv_at hl 1 rfl) ?_
  refine lv_iload hx hb dL_law_901 (lv_at hl 5 rfl) ?_
  refine lv_iconst (v := 1) hx hb dL_law_903 (by decide) ?_
  refine lv_iadd hx hb dL_law_904 ?_
  refine lv_topi (fun q_187 eq_187 => ?_)
  obtain rfl : q_187 = nI (i + 1) := eq_187.trans (nI_p1 i)
  refine r_sld X hw hX hbl hbA hL (j := (i + 1)) (by omega) dL_law_905 ?_
  refine lv_aload_n hx hb dL_law_906 rfl (lv_at hl 1 rfl) ?_
  refine lv_iload hx hb dL_law_907 (lv_at hl 5 rfl) ?_
  refine lv_iconst (v := 2) hx hb dL_law_909 (by decide) ?_
  refine lv_iadd hx hb dL_law_910 ?_
  refine lv_topi (fun q_188 eq_188 => ?_)
  obtain rfl : q_188 = nI (i + 2) := eq_188.trans (nI_p2 i)
  refine r_sld X hw hX hbl hbA hL (j := (i + 2)) (by omega) dL_law_911 ?_
  refine r_ci X hw (pm_r (pm_l pm_0)) (wn := fun (u : MV) => (xW t aX vX_184 ++ (mW t aM u ++ (oW t aO vO_185)))) (fun u => (pm_r (pm_l pm_0)).symm) (r_runV X hw (c_X7_cell l D t aM vM (xs (i + 1)) (xs (i + 2)) _ h) (pm_r (pm_l pm_0)) (cwV 2 X.1.2.2.2.2 gL_law_X7_cell rfl rfl rfl (by decide +kernel) ⟨Nat.le_of_ble_eq_true rfl, Nat.le_of_ble_eq_true rfl⟩) (ci := 7) rfl rfl rfl rfl hl rfl (Nat.le_of_ble_eq_true rfl) dL_law_912 ⟨by show 100 + i + 2 + 0 ≤ 601024; omega, by show 3000 + 6 * i + 12 + 0 ≤ 7293034; omega⟩) (fun r_190 u H locs h hw => ?_)
  obtain ⟨vM_189, rfl⟩ : ∃ z, z = u := ⟨_, rfl⟩
  refine lv_istore (lv' := [(6, .int r_190), (5, .int r_186), (0, .ref b), (1, .ref (XA.o aX)), (2, .ref (MA.o aM)), (3, .ref aO), (4, .int (nI i))]) hx hb dL_law_915 hl (by decide) rfl (fun ls hl => ?_)
  refine lv_aload_n hx hb dL_law_917 rfl (lv_at hl 4 rfl) ?_
  refine r_ci X hw (pm_r (pm_l pm_0)) (wn := fun (u : MV) => (xW t aX vX_184 ++ (mW t aM u ++ (oW t aO vO_185)))) (fun u => (pm_r (pm_l pm_0)).symm) (r_runV X hw (c_X7_thrown l D t aM vM_189 _ h) (pm_r (pm_l pm_0)) (cwV 0 X.1.2.2.2.2 gL_law_X7_thrown rfl rfl rfl (by decide +kernel) ⟨Nat.le_of_ble_eq_true rfl, Nat.le_of_ble_eq_true rfl⟩) (ci := 7) rfl rfl rfl rfl hl rfl (Nat.le_of_ble_eq_true rfl) dL_law_918 ⟨by show 100 + i + 2 + 0 ≤ 601024; omega, by show 3000 + 6 * i + 12 + 0 ≤ 7293034; omega⟩) (fun r_192 u H locs h hw => ?_)
  obtain ⟨vM_191, rfl⟩ : ∃ z, z = u := ⟨_, rfl⟩
  refine lv_iload hx hb dL_law_921 (lv_at hl 1 rfl) ?_
  refine lv_icmp_eq (tgt := 928) hx hb dL_law_923 (by decide) (fun c_195 => ?_) (fun c_195 => ?_)
  · replace h := h.1 c_195
    refine lv_iload hx hb dL_law_928 (lv_at hl 1 rfl) ?_
    refine lv_if_ne (tgt := 945) hx hb dL_law_930 (by decide) (fun c_194 => ?_) (fun c_194 => ?_)
    · replace h := h.1 c_194
      exact k_L_law_945 X hfl hL hi hX hbl hbA aX aM aO hN _ _ _ _ _ _ h hw (lv_sub hl [2, 3, 4, 5, 6] rfl)
    replace h := h.2 c_194
    refine lv_aload_n hx hb dL_law_933 rfl (lv_at hl 5 rfl) ?_
    refine lv_iconst (v := 0) hx hb dL_law_934 (by decide) ?_
    refine r_lald (v := (vO_185 0)) X hw 69 rfl (vpl rfl) rfl dL_law_935 ?_
    refine lv_iload hx hb dL_law_936 (lv_at hl 0 rfl) ?_
    refine lv_i2l (v := Int32.toInt64 r_190) hx hb dL_law_938 rfl ?_
    refine W.lcmp hx hb dL_law_939 ?_
    refine lv_if_eq (tgt := 945) hx hb dL_law_940 (by decide) (fun c_193 => ?_) (fun c_193 => ?_)
    · replace h := h.1 c_193
      exact k_L_law_945 X hfl hL hi hX hbl hbA aX aM aO hN _ _ _ _ _ _ h hw (lv_sub hl [2, 3, 4, 5, 6] rfl)
    replace h := h.2 c_193
    refine lv_iconst (v := 0) hx hb dL_law_943 (by decide) ?_
    exact absurd h id
  replace h := h.2 c_195
  refine lv_iconst (v := 0) hx hb dL_law_926 (by decide) ?_
  exact absurd h id
def wp_L_law_1041 (xs : Nat → Int32) (i : Nat) (N : XV → MV → OV → Prop) (vX : XV) (vM : MV) (vO : OV) : Prop := N vX vM vO
set_option maxHeartbeats 4000000 in
set_option maxRecDepth 100000 in
theorem k_L_law_1041 {p : Program} {l : Launch} {e : Env} {s : State} {m : MethodId} {below : List Frame} {meth : Method} {c : Code} {args : Array Value} {D : va_G} {t : T3} {A : Nat → Prop} {Z : State → Prop} {b L i : Nat} {xs : Nat → Int32} (X : Cx p s m meth c args cL_law 9 (some .boolean) RL wsL_law D t A) (hfl : l.stackTraces = false) (hL : L ≤ 2048) (hi : i + 4 ≤ L) (hX : va_X b L xs s s.heap) (hbl : b < s.heap.size) (hbA : ¬ A b) (aX : XA) (aM : MA) (aO : Nat) {N : XV → MV → OV → Prop} (hN : ∀ (vX : XV) (vM : MV) (vO : OV) (H : Heap) (locs : List Loc) (ls : Array Slot), N vX vM vO → Wd D A s.heap (xW t aX vX ++ (mW t aM vM ++ (oW t aO vO))) H locs → lv_has ls 9 [(0, .ref b), (1, .ref (XA.o aX)), (2, .ref (MA.o aM)), (3, .ref aO), (4, .int (nI i))] → W p l e room_1 s m args below meth c H locs (100 + i + 4) (3000 + 6 * i + 24) Z (F0 m 1385 ls [])) : ∀ (vX : XV) (vM : MV) (vO : OV) (H : Heap) (locs : List Loc) (ls : Array Slot), wp_L_law_1041 xs i N vX vM vO → Wd D A s.heap (xW t aX vX ++ (mW t aM vM ++ (oW t aO vO))) H locs → lv_has ls 9 [(0, .ref b), (1, .ref (XA.o aX)), (2, .ref (MA.o aM)), (3, .ref aO), (4, .int (nI i))] → W p l e room_1 s m args below meth c H locs (100 + i + 2) (3000 + 6 * i + 12) Z (F0 m 1041 ls []) := by
  intro vX vM vO H locs ls h hw hl
  have hx := X.1.1
  have hb := X.1.2.1
  refine lv_goto (tgt := 1385) hx hb dL_law_1041 (by decide) ?_
  refine W.widen (k := 100 + i + 4) (n := 3000 + 6 * i + 24) (by omega) (by omega) ?_
  exact hN _ _ _ _ _ _ h hw hl
def wp_L_law_1008 (xs : Nat → Int32) (i : Nat) (N : XV → MV → OV → Prop) (vX : XV) (vM : MV) (vO : OV) (x5 : Int32) (t1 : Int32) (t2 : Int32) (t3 : Int32) : Prop := wp_X7_color vM t1 t2 t3 (fun (r_207 : Int32) (vM_206 : MV) => wp_X7_thrown vM_206  (fun (r_209 : Int32) (vM_208 : MV) => (r_209 = x5 → (¬ x5 = 0 → wp_L_law_1041 xs i N vX vM_208 vO) ∧ (x5 = 0 → ((lg_cmp (vO 0) (Int32.toInt64 r_207)) = 0 → wp_L_law_1041 xs i N vX vM_208 vO) ∧ (¬ (lg_cmp (vO 0) (Int32.toInt64 r_207)) = 0 → False))) ∧ (¬ r_209 = x5 → False)))
set_option maxHeartbeats 4000000 in
set_option maxRecDepth 100000 in
theorem k_L_law_1008 {p : Program} {l : Launch} {e : Env} {s : State} {m : MethodId} {below : List Frame} {meth : Method} {c : Code} {args : Array Value} {D : va_G} {t : T3} {A : Nat → Prop} {Z : State → Prop} {b L i : Nat} {xs : Nat → Int32} (X : Cx p s m meth c args cL_law 9 (some .boolean) RL wsL_law D t A) (hfl : l.stackTraces = false) (hL : L ≤ 2048) (hi : i + 4 ≤ L) (hX : va_X b L xs s s.heap) (hbl : b < s.heap.size) (hbA : ¬ A b) (aX : XA) (aM : MA) (aO : Nat) {N : XV → MV → OV → Prop} (hN : ∀ (vX : XV) (vM : MV) (vO : OV) (H : Heap) (locs : List Loc) (ls : Array Slot), N vX vM vO → Wd D A s.heap (xW t aX vX ++ (mW t aM vM ++ (oW t aO vO))) H locs → lv_has ls 9 [(0, .ref b), (1, .ref (XA.o aX)), (2, .ref (MA.o aM)), (3, .ref aO), (4, .int (nI i))] → W p l e room_1 s m args below meth c H locs (100 + i + 4) (3000 + 6 * i + 24) Z (F0 m 1385 ls [])) : ∀ (vX : XV) (vM : MV) (vO : OV) (x5 : Int32) (t1 : Int32) (t2 : Int32) (t3 : Int32) (H : Heap) (locs : List Loc) (ls : Array Slot), wp_L_law_1008 xs i N vX vM vO x5 t1 t2 t3 → Wd D A s.heap (xW t aX vX ++ (mW t aM vM ++ (oW t aO vO))) H locs → lv_has ls 9 [(0, .ref b), (1, .ref (XA.o aX)), (2, .ref (MA.o aM)), (3, .ref aO), (4, .int (nI i)), (5, .int x5)] → W p l e room_1 s m args below meth c H locs (100 + i + 2) (3000 + 6 * i + 12) Z (F0 m 1008 ls [.int t3, .int t2, .int t1, .ref (MA.o aM)]) := by
  intro vX vM vO x5 t1 t2 t3 H locs ls h hw hl
  have hx := X.1.1
  have hb := X.1.2.1
  refine r_ci X hw (pm_r (pm_l pm_0)) (wn := fun (u : MV) => (xW t aX vX ++ (mW t aM u ++ (oW t aO vO)))) (fun u => (pm_r (pm_l pm_0)).symm) (r_runV X hw (c_X7_color l D t aM vM t1 t2 t3 _ h) (pm_r (pm_l pm_0)) (cwV 3 X.1.2.2.2.2 gL_law_X7_color rfl rfl rfl (by decide +kernel) ⟨Nat.le_of_ble_eq_true rfl, Nat.le_of_ble_eq_true rfl⟩) (ci := 7) rfl rfl rfl rfl hl rfl (Nat.le_of_ble_eq_true rfl) dL_law_1008 ⟨by show 100 + i + 2 + 0 ≤ 601024; omega, by show 3000 + 6 * i + 12 + 0 ≤ 7293034; omega⟩) (fun r_207 u H locs h hw => ?_)
  obtain ⟨vM_206, rfl⟩ : ∃ z, z = u := ⟨_, rfl⟩
  refine lv_istore (lv' := [(6, .int r_207), (0, .ref b), (1, .ref (XA.o aX)), (2, .ref (MA.o aM)), (3, .ref aO), (4, .int (nI i)), (5, .int x5)]) hx hb dL_law_1011 hl (by decide) rfl (fun ls hl => ?_)
  refine lv_aload_n hx hb dL_law_1013 rfl (lv_at hl 3 rfl) ?_
  refine r_ci X hw (pm_r (pm_l pm_0)) (wn := fun (u : MV) => (xW t aX vX ++ (mW t aM u ++ (oW t aO vO)))) (fun u => (pm_r (pm_l pm_0)).symm) (r_runV X hw (c_X7_thrown l D t aM vM_206 _ h) (pm_r (pm_l pm_0)) (cwV 0 X.1.2.2.2.2 gL_law_X7_thrown rfl rfl rfl (by decide +kernel) ⟨Nat.le_of_ble_eq_true rfl, Nat.le_of_ble_eq_true rfl⟩) (ci := 7) rfl rfl rfl rfl hl rfl (Nat.le_of_ble_eq_true rfl) dL_law_1014 ⟨by show 100 + i + 2 + 0 ≤ 601024; omega, by show 3000 + 6 * i + 12 + 0 ≤ 7293034; omega⟩) (fun r_209 u H locs h hw => ?_)
  obtain ⟨vM_208, rfl⟩ : ∃ z, z = u := ⟨_, rfl⟩
  refine lv_iload hx hb dL_law_1017 (lv_at hl 6 rfl) ?_
  refine lv_icmp_eq (tgt := 1024) hx hb dL_law_1019 (by decide) (fun c_212 => ?_) (fun c_212 => ?_)
  · replace h := h.1 c_212
    refine lv_iload hx hb dL_law_1024 (lv_at hl 6 rfl) ?_
    refine lv_if_ne (tgt := 1041) hx hb dL_law_1026 (by decide) (fun c_211 => ?_) (fun c_211 => ?_)
    · replace h := h.1 c_211
      exact k_L_law_1041 X hfl hL hi hX hbl hbA aX aM aO hN _ _ _ _ _ _ h hw (lv_sub hl [1, 2, 3, 4, 5] rfl)
    replace h := h.2 c_211
    refine lv_aload_n hx hb dL_law_1029 rfl (lv_at hl 4 rfl) ?_
    refine lv_iconst (v := 0) hx hb dL_law_1030 (by decide) ?_
    refine r_lald (v := (vO 0)) X hw 69 rfl (vpl rfl) rfl dL_law_1031 ?_
    refine lv_iload hx hb dL_law_1032 (lv_at hl 0 rfl) ?_
    refine lv_i2l (v := Int32.toInt64 r_207) hx hb dL_law_1034 rfl ?_
    refine W.lcmp hx hb dL_law_1035 ?_
    refine lv_if_eq (tgt := 1041) hx hb dL_law_1036 (by decide) (fun c_210 => ?_) (fun c_210 => ?_)
    · replace h := h.1 c_210
      exact k_L_law_1041 X hfl hL hi hX hbl hbA aX aM aO hN _ _ _ _ _ _ h hw (lv_sub hl [1, 2, 3, 4, 5] rfl)
    replace h := h.2 c_210
    refine lv_iconst (v := 0) hx hb dL_law_1039 (by decide) ?_
    exact absurd h id
  replace h := h.2 c_212
  refine lv_iconst (v := 0) hx hb dL_law_1022 (by decide) ?_
  exact absurd h id
def wp_L_law_975 (xs : Nat → Int32) (i : Nat) (N : XV → MV → OV → Prop) (vX : XV) (vM : MV) (vO : OV) (t1 : Int32) (t2 : Int32) (t3 : Int32) : Prop := wp_L_color vX vO t1 t2 t3 (fun (r_202 : Int32) (vX_200 : XV) (vO_201 : OV) => ((xs (i + 3)) = 0 → wp_L_law_1008 xs i N vX_200 vM vO_201 r_202 (xs (i + 1)) (xs (i + 2)) 0) ∧ (¬ (xs (i + 3)) = 0 → wp_L_law_1008 xs i N vX_200 vM vO_201 r_202 (xs (i + 1)) (xs (i + 2)) 1))
set_option maxHeartbeats 4000000 in
set_option maxRecDepth 100000 in
theorem k_L_law_975 {p : Program} {l : Launch} {e : Env} {s : State} {m : MethodId} {below : List Frame} {meth : Method} {c : Code} {args : Array Value} {D : va_G} {t : T3} {A : Nat → Prop} {Z : State → Prop} {b L i : Nat} {xs : Nat → Int32} (X : Cx p s m meth c args cL_law 9 (some .boolean) RL wsL_law D t A) (hfl : l.stackTraces = false) (hL : L ≤ 2048) (hi : i + 4 ≤ L) (hX : va_X b L xs s s.heap) (hbl : b < s.heap.size) (hbA : ¬ A b) (aX : XA) (aM : MA) (aO : Nat) {N : XV → MV → OV → Prop} (hN : ∀ (vX : XV) (vM : MV) (vO : OV) (H : Heap) (locs : List Loc) (ls : Array Slot), N vX vM vO → Wd D A s.heap (xW t aX vX ++ (mW t aM vM ++ (oW t aO vO))) H locs → lv_has ls 9 [(0, .ref b), (1, .ref (XA.o aX)), (2, .ref (MA.o aM)), (3, .ref aO), (4, .int (nI i))] → W p l e room_1 s m args below meth c H locs (100 + i + 4) (3000 + 6 * i + 24) Z (F0 m 1385 ls [])) : ∀ (vX : XV) (vM : MV) (vO : OV) (t1 : Int32) (t2 : Int32) (t3 : Int32) (H : Heap) (locs : List Loc) (ls : Array Slot), wp_L_law_975 xs i N vX vM vO t1 t2 t3 → Wd D A s.heap (xW t aX vX ++ (mW t aM vM ++ (oW t aO vO))) H locs → lv_has ls 9 [(0, .ref b), (1, .ref (XA.o aX)), (2, .ref (MA.o aM)), (3, .ref aO), (4, .int (nI i))] → W p l e room_1 s m args below meth c H locs (100 + i) (3000 + 6 * i) Z (F0 m 975 ls [.int t3, .int t2, .int t1, .ref (XA.o aX)]) := by
  intro vX vM vO t1 t2 t3 H locs ls h hw hl
  have hx := X.1.1
  have hb := X.1.2.1
  refine lv_aload_n hx hb dL_law_975 rfl (lv_at hl 3 rfl) ?_
  refine r_ci X hw (pm_2 (pm_l pm_0) (pm_r (pm_r pm_0))) (wn := fun (u : XV × OV) => (xW t aX u.1 ++ (mW t aM vM ++ (oW t aO u.2)))) (fun u => (pm_2 (pm_l pm_0) (pm_r (pm_r pm_0))).symm) (r_runSW X hw (c_L_color l D t aX aO vX vO t1 t2 t3 _ hfl h) (pm_2 (pm_l pm_0) (pm_r (pm_r pm_0))) (vx_cwSW 5 X.1.2.2.2.2 gL_law_L_color rfl rfl rfl (by decide +kernel) ⟨Nat.le_of_ble_eq_true rfl, Nat.le_of_ble_eq_true rfl⟩) rfl hl rfl (Nat.le_of_ble_eq_true rfl) dL_law_976 ⟨by show 100 + i + 0 + 2 ≤ 601024; omega, by show 3000 + 6 * i + 0 + 12 ≤ 7293034; omega⟩) (fun r_202 u H locs h hw => ?_)
  obtain ⟨vX_200, vO_201⟩ := u
  refine lv_istore (lv' := [(5, .int r_202), (0, .ref b), (1, .ref (XA.o aX)), (2, .ref (MA.o aM)), (3, .ref aO), (4, .int (nI i))]) hx hb dL_law_979 hl (by decide) rfl (fun ls hl => ?_)
  refine lv_aload_n hx hb dL_law_981 rfl (lv_at hl 3 rfl) ?_
  refine lv_aload_n hx hb dL_law_982 rfl (lv_at hl 1 rfl) ?_
  refine lv_iload hx hb dL_law_983 (lv_at hl 5 rfl) ?_
  refine lv_iconst (v := 1) hx hb dL_law_985 (by decide) ?_
  refine lv_iadd hx hb dL_law_986 ?_
  refine lv_topi (fun q_203 eq_203 => ?_)
  obtain rfl : q_203 = nI (i + 1) := eq_203.trans (nI_p1 i)
  refine r_sld X hw hX hbl hbA hL (j := (i + 1)) (by omega) dL_law_987 ?_
  refine lv_aload_n hx hb dL_law_988 rfl (lv_at hl 1 rfl) ?_
  refine lv_iload hx hb dL_law_989 (lv_at hl 5 rfl) ?_
  refine lv_iconst (v := 2) hx hb dL_law_991 (by decide) ?_
  refine lv_iadd hx hb dL_law_992 ?_
  refine lv_topi (fun q_204 eq_204 => ?_)
  obtain rfl : q_204 = nI (i + 2) := eq_204.trans (nI_p2 i)
  refine r_sld X hw hX hbl hbA hL (j := (i + 2)) (by omega) dL_law_993 ?_
  refine lv_aload_n hx hb dL_law_994 rfl (lv_at hl 1 rfl) ?_
  refine lv_iload hx hb dL_law_995 (lv_at hl 5 rfl) ?_
  refine lv_iconst (v := 3) hx hb dL_law_997 (by decide) ?_
  refine lv_iadd hx hb dL_law_998 ?_
  refine lv_topi (fun q_205 eq_205 => ?_)
  obtain rfl : q_205 = nI (i + 3) := eq_205.trans (nI_p3 i)
  refine r_sld X hw hX hbl hbA hL (j := (i + 3)) (by omega) dL_law_999 ?_
  refine lv_if_eq (tgt := 1007) hx hb dL_law_1000 (by decide) (fun c_213 => ?_) (fun c_213 => ?_)
  · replace h := h.1 c_213
    refine lv_iconst (v := 0) hx hb dL_law_1007 (by decide) ?_
    exact k_L_law_1008 X hfl hL hi hX hbl hbA aX aM aO hN _ _ _ _ _ _ _ _ _ _ h hw (lv_sub hl [1, 2, 3, 4, 5, 0] rfl)
  replace h := h.2 c_213
  refine lv_iconst (v := 1) hx hb dL_law_1003 (by decide) ?_
  refine lv_goto (tgt := 1008) hx hb dL_law_1004 (by decide) ?_
  exact k_L_law_1008 X hfl hL hi hX hbl hbA aX aM aO hN _ _ _ _ _ _ _ _ _ _ h hw (lv_sub hl [1, 2, 3, 4, 5, 0] rfl)
def wp_L_law_948 (xs : Nat → Int32) (i : Nat) (N : XV → MV → OV → Prop) (vX : XV) (vM : MV) (vO : OV) : Prop := ((xs (i + 3)) = 0 → wp_L_law_975 xs i N vX vM vO (xs (i + 1)) (xs (i + 2)) 0) ∧ (¬ (xs (i + 3)) = 0 → wp_L_law_975 xs i N vX vM vO (xs (i + 1)) (xs (i + 2)) 1)
set_option maxHeartbeats 4000000 in
set_option maxRecDepth 100000 in
theorem k_L_law_948 {p : Program} {l : Launch} {e : Env} {s : State} {m : MethodId} {below : List Frame} {meth : Method} {c : Code} {args : Array Value} {D : va_G} {t : T3} {A : Nat → Prop} {Z : State → Prop} {b L i : Nat} {xs : Nat → Int32} (X : Cx p s m meth c args cL_law 9 (some .boolean) RL wsL_law D t A) (hfl : l.stackTraces = false) (hL : L ≤ 2048) (hi : i + 4 ≤ L) (hX : va_X b L xs s s.heap) (hbl : b < s.heap.size) (hbA : ¬ A b) (aX : XA) (aM : MA) (aO : Nat) {N : XV → MV → OV → Prop} (hN : ∀ (vX : XV) (vM : MV) (vO : OV) (H : Heap) (locs : List Loc) (ls : Array Slot), N vX vM vO → Wd D A s.heap (xW t aX vX ++ (mW t aM vM ++ (oW t aO vO))) H locs → lv_has ls 9 [(0, .ref b), (1, .ref (XA.o aX)), (2, .ref (MA.o aM)), (3, .ref aO), (4, .int (nI i))] → W p l e room_1 s m args below meth c H locs (100 + i + 4) (3000 + 6 * i + 24) Z (F0 m 1385 ls [])) : ∀ (vX : XV) (vM : MV) (vO : OV) (H : Heap) (locs : List Loc) (ls : Array Slot), wp_L_law_948 xs i N vX vM vO → Wd D A s.heap (xW t aX vX ++ (mW t aM vM ++ (oW t aO vO))) H locs → lv_has ls 9 [(0, .ref b), (1, .ref (XA.o aX)), (2, .ref (MA.o aM)), (3, .ref aO), (4, .int (nI i))] → W p l e room_1 s m args below meth c H locs (100 + i) (3000 + 6 * i) Z (F0 m 948 ls []) := by
  intro vX vM vO H locs ls h hw hl
  have hx := X.1.1
  have hb := X.1.2.1
  refine lv_aload_n hx hb dL_law_948 rfl (lv_at hl 1 rfl) ?_
  refine lv_aload_n hx hb dL_law_949 rfl (lv_at hl 0 rfl) ?_
  refine lv_iload hx hb dL_law_950 (lv_at hl 4 rfl) ?_
  refine lv_iconst (v := 1) hx hb dL_law_952 (by decide) ?_
  refine lv_iadd hx hb dL_law_953 ?_
  refine lv_topi (fun q_197 eq_197 => ?_)
  obtain rfl : q_197 = nI (i + 1) := eq_197.trans (nI_p1 i)
  refine r_sld X hw hX hbl hbA hL (j := (i + 1)) (by omega) dL_law_954 ?_
  refine lv_aload_n hx hb dL_law_955 rfl (lv_at hl 0 rfl) ?_
  refine lv_iload hx hb dL_law_956 (lv_at hl 4 rfl) ?_
  refine lv_iconst (v := 2) hx hb dL_law_958 (by decide) ?_
  refine lv_iadd hx hb dL_law_959 ?_
  refine lv_topi (fun q_198 eq_198 => ?_)
  obtain rfl : q_198 = nI (i + 2) := eq_198.trans (nI_p2 i)
  refine r_sld X hw hX hbl hbA hL (j := (i + 2)) (by omega) dL_law_960 ?_
  refine lv_aload_n hx hb dL_law_961 rfl (lv_at hl 0 rfl) ?_
  refine lv_iload hx hb dL_law_962 (lv_at hl 4 rfl) ?_
  refine lv_iconst (v := 3) hx hb dL_law_964 (by decide) ?_
  refine lv_iadd hx hb dL_law_965 ?_
  refine lv_topi (fun q_199 eq_199 => ?_)
  obtain rfl : q_199 = nI (i + 3) := eq_199.trans (nI_p3 i)
  refine r_sld X hw hX hbl hbA hL (j := (i + 3)) (by omega) dL_law_966 ?_
  refine lv_if_eq (tgt := 974) hx hb dL_law_967 (by decide) (fun c_214 => ?_) (fun c_214 => ?_)
  · replace h := h.1 c_214
    refine lv_iconst (v := 0) hx hb dL_law_974 (by decide) ?_
    exact k_L_law_975 X hfl hL hi hX hbl hbA aX aM aO hN _ _ _ _ _ _ _ _ _ h hw hl
  replace h := h.2 c_214
  refine lv_iconst (v := 1) hx hb dL_law_970 (by decide) ?_
  refine lv_goto (tgt := 975) hx hb dL_law_971 (by decide) ?_
  exact k_L_law_975 X hfl hL hi hX hbl hbA aX aM aO hN _ _ _ _ _ _ _ _ _ h hw hl
def wp_L_law_1109 (xs : Nat → Int32) (i : Nat) (N : XV → MV → OV → Prop) (vX : XV) (vM : MV) (vO : OV) : Prop := N vX vM vO
set_option maxHeartbeats 4000000 in
set_option maxRecDepth 100000 in
theorem k_L_law_1109 {p : Program} {l : Launch} {e : Env} {s : State} {m : MethodId} {below : List Frame} {meth : Method} {c : Code} {args : Array Value} {D : va_G} {t : T3} {A : Nat → Prop} {Z : State → Prop} {b L i : Nat} {xs : Nat → Int32} (X : Cx p s m meth c args cL_law 9 (some .boolean) RL wsL_law D t A) (hfl : l.stackTraces = false) (hL : L ≤ 2048) (hi : i + 4 ≤ L) (hX : va_X b L xs s s.heap) (hbl : b < s.heap.size) (hbA : ¬ A b) (aX : XA) (aM : MA) (aO : Nat) {N : XV → MV → OV → Prop} (hN : ∀ (vX : XV) (vM : MV) (vO : OV) (H : Heap) (locs : List Loc) (ls : Array Slot), N vX vM vO → Wd D A s.heap (xW t aX vX ++ (mW t aM vM ++ (oW t aO vO))) H locs → lv_has ls 9 [(0, .ref b), (1, .ref (XA.o aX)), (2, .ref (MA.o aM)), (3, .ref aO), (4, .int (nI i))] → W p l e room_1 s m args below meth c H locs (100 + i + 4) (3000 + 6 * i + 24) Z (F0 m 1385 ls [])) : ∀ (vX : XV) (vM : MV) (vO : OV) (H : Heap) (locs : List Loc) (ls : Array Slot), wp_L_law_1109 xs i N vX vM vO → Wd D A s.heap (xW t aX vX ++ (mW t aM vM ++ (oW t aO vO))) H locs → lv_has ls 9 [(0, .ref b), (1, .ref (XA.o aX)), (2, .ref (MA.o aM)), (3, .ref aO), (4, .int (nI i))] → W p l e room_1 s m args below meth c H locs (100 + i + 1) (3000 + 6 * i + 6) Z (F0 m 1109 ls []) := by
  intro vX vM vO H locs ls h hw hl
  have hx := X.1.1
  have hb := X.1.2.1
  refine lv_goto (tgt := 1385) hx hb dL_law_1109 (by decide) ?_
  refine W.widen (k := 100 + i + 4) (n := 3000 + 6 * i + 24) (by omega) (by omega) ?_
  exact hN _ _ _ _ _ _ h hw hl
def wp_L_law_1044 (xs : Nat → Int32) (i : Nat) (N : XV → MV → OV → Prop) (vX : XV) (vM : MV) (vO : OV) : Prop := wp_L_tile vX vO (xs (i + 1)) (xs (i + 2)) (fun (r_220 : Int32) (vX_218 : XV) (vO_219 : OV) => wp_X7_tile vM (xs (i + 1)) (xs (i + 2)) (fun (r_224 : Int32) (vM_223 : MV) => wp_X7_thrown vM_223  (fun (r_226 : Int32) (vM_225 : MV) => (r_226 = r_220 → (¬ r_220 = 0 → wp_L_law_1109 xs i N vX_218 vM_225 vO_219) ∧ (r_220 = 0 → ((lg_cmp (vO_219 0) (Int32.toInt64 r_224)) = 0 → wp_L_law_1109 xs i N vX_218 vM_225 vO_219) ∧ (¬ (lg_cmp (vO_219 0) (Int32.toInt64 r_224)) = 0 → False))) ∧ (¬ r_226 = r_220 → False))))
set_option maxHeartbeats 4000000 in
set_option maxRecDepth 100000 in
theorem k_L_law_1044 {p : Program} {l : Launch} {e : Env} {s : State} {m : MethodId} {below : List Frame} {meth : Method} {c : Code} {args : Array Value} {D : va_G} {t : T3} {A : Nat → Prop} {Z : State → Prop} {b L i : Nat} {xs : Nat → Int32} (X : Cx p s m meth c args cL_law 9 (some .boolean) RL wsL_law D t A) (hfl : l.stackTraces = false) (hL : L ≤ 2048) (hi : i + 4 ≤ L) (hX : va_X b L xs s s.heap) (hbl : b < s.heap.size) (hbA : ¬ A b) (aX : XA) (aM : MA) (aO : Nat) {N : XV → MV → OV → Prop} (hN : ∀ (vX : XV) (vM : MV) (vO : OV) (H : Heap) (locs : List Loc) (ls : Array Slot), N vX vM vO → Wd D A s.heap (xW t aX vX ++ (mW t aM vM ++ (oW t aO vO))) H locs → lv_has ls 9 [(0, .ref b), (1, .ref (XA.o aX)), (2, .ref (MA.o aM)), (3, .ref aO), (4, .int (nI i))] → W p l e room_1 s m args below meth c H locs (100 + i + 4) (3000 + 6 * i + 24) Z (F0 m 1385 ls [])) : ∀ (vX : XV) (vM : MV) (vO : OV) (H : Heap) (locs : List Loc) (ls : Array Slot), wp_L_law_1044 xs i N vX vM vO → Wd D A s.heap (xW t aX vX ++ (mW t aM vM ++ (oW t aO vO))) H locs → lv_has ls 9 [(0, .ref b), (1, .ref (XA.o aX)), (2, .ref (MA.o aM)), (3, .ref aO), (4, .int (nI i))] → W p l e room_1 s m args below meth c H locs (100 + i) (3000 + 6 * i) Z (F0 m 1044 ls []) := by
  intro vX vM vO H locs ls h hw hl
  have hx := X.1.1
  have hb := X.1.2.1
  refine lv_aload_n hx hb dL_law_1044 rfl (lv_at hl 1 rfl) ?_
  refine lv_aload_n hx hb dL_law_1045 rfl (lv_at hl 0 rfl) ?_
  refine lv_iload hx hb dL_law_1046 (lv_at hl 4 rfl) ?_
  refine lv_iconst (v := 1) hx hb dL_law_1048 (by decide) ?_
  refine lv_iadd hx hb dL_law_1049 ?_
  refine lv_topi (fun q_216 eq_216 => ?_)
  obtain rfl : q_216 = nI (i + 1) := eq_216.trans (nI_p1 i)
  refine r_sld X hw hX hbl hbA hL (j := (i + 1)) (by omega) dL_law_1050 ?_
  refine lv_aload_n hx hb dL_law_1051 rfl (lv_at hl 0 rfl) ?_
  refine lv_iload hx hb dL_law_1052 (lv_at hl 4 rfl) ?_
  refine lv_iconst (v := 2) hx hb dL_law_1054 (by decide) ?_
  refine lv_iadd hx hb dL_law_1055 ?_
  refine lv_topi (fun q_217 eq_217 => ?_)
  obtain rfl : q_217 = nI (i + 2) := eq_217.trans (nI_p2 i)
  refine r_sld X hw hX hbl hbA hL (j := (i + 2)) (by omega) dL_law_1056 ?_
  refine lv_aload_n hx hb dL_law_1057 rfl (lv_at hl 3 rfl) ?_
  refine r_ci X hw (pm_2 (pm_l pm_0) (pm_r (pm_r pm_0))) (wn := fun (u : XV × OV) => (xW t aX u.1 ++ (mW t aM vM ++ (oW t aO u.2)))) (fun u => (pm_2 (pm_l pm_0) (pm_r (pm_r pm_0))).symm) (r_runSW X hw (c_L_tile l D t aX aO vX vO (xs (i + 1)) (xs (i + 2)) _ hfl h) (pm_2 (pm_l pm_0) (pm_r (pm_r pm_0))) (vx_cwSW 4 X.1.2.2.2.2 gL_law_L_tile rfl rfl rfl (by decide +kernel) ⟨Nat.le_of_ble_eq_true rfl, Nat.le_of_ble_eq_true rfl⟩) rfl hl rfl (Nat.le_of_ble_eq_true rfl) dL_law_1058 ⟨by show 100 + i + 0 + 1 ≤ 601024; omega, by show 3000 + 6 * i + 0 + 6 ≤ 7293034; omega⟩) (fun r_220 u H locs h hw => ?_)
  obtain ⟨vX_218, vO_219⟩ := u
  refine lv_istore (lv' := [(5, .int r_220), (0, .ref b), (1, .ref (XA.o aX)), (2, .ref (MA.o aM)), (3, .ref aO), (4, .int (nI i))]) hx hb dL_law_1061 hl (by decide) rfl (fun ls hl => ?_)
  refine lv_aload_n hx hb dL_law_1063 rfl (lv_at hl 3 rfl) ?_
  refine lv_aload_n hx hb dL_law_1064 rfl (lv_at hl 1 rfl) ?_
  refine lv_iload hx hb dL_law_1065 (lv_at hl 5 rfl) ?_
  refine lv_iconst (v := 1) hx hb dL_law_1067 (by decide) ?_
  refine lv_iadd hx hb dL_law_1068 ?_
  refine lv_topi (fun q_221 eq_221 => ?_)
  obtain rfl : q_221 = nI (i + 1) := eq_221.trans (nI_p1 i)
  refine r_sld X hw hX hbl hbA hL (j := (i + 1)) (by omega) dL_law_1069 ?_
  refine lv_aload_n hx hb dL_law_1070 rfl (lv_at hl 1 rfl) ?_
  refine lv_iload hx hb dL_law_1071 (lv_at hl 5 rfl) ?_
  refine lv_iconst (v := 2) hx hb dL_law_1073 (by decide) ?_
  refine lv_iadd hx hb dL_law_1074 ?_
  refine lv_topi (fun q_222 eq_222 => ?_)
  obtain rfl : q_222 = nI (i + 2) := eq_222.trans (nI_p2 i)
  refine r_sld X hw hX hbl hbA hL (j := (i + 2)) (by omega) dL_law_1075 ?_
  refine r_ci X hw (pm_r (pm_l pm_0)) (wn := fun (u : MV) => (xW t aX vX_218 ++ (mW t aM u ++ (oW t aO vO_219)))) (fun u => (pm_r (pm_l pm_0)).symm) (r_runV X hw (c_X7_tile l D t aM vM (xs (i + 1)) (xs (i + 2)) _ h) (pm_r (pm_l pm_0)) (cwV 2 X.1.2.2.2.2 gL_law_X7_tile rfl rfl rfl (by decide +kernel) ⟨Nat.le_of_ble_eq_true rfl, Nat.le_of_ble_eq_true rfl⟩) (ci := 7) rfl rfl rfl rfl hl rfl (Nat.le_of_ble_eq_true rfl) dL_law_1076 ⟨by show 100 + i + 1 + 0 ≤ 601024; omega, by show 3000 + 6 * i + 6 + 0 ≤ 7293034; omega⟩) (fun r_224 u H locs h hw => ?_)
  obtain ⟨vM_223, rfl⟩ : ∃ z, z = u := ⟨_, rfl⟩
  refine lv_istore (lv' := [(6, .int r_224), (5, .int r_220), (0, .ref b), (1, .ref (XA.o aX)), (2, .ref (MA.o aM)), (3, .ref aO), (4, .int (nI i))]) hx hb dL_law_1079 hl (by decide) rfl (fun ls hl => ?_)
  refine lv_aload_n hx hb dL_law_1081 rfl (lv_at hl 4 rfl) ?_
  refine r_ci X hw (pm_r (pm_l pm_0)) (wn := fun (u : MV) => (xW t aX vX_218 ++ (mW t aM u ++ (oW t aO vO_219)))) (fun u => (pm_r (pm_l pm_0)).symm) (r_runV X hw (c_X7_thrown l D t aM vM_223 _ h) (pm_r (pm_l pm_0)) (cwV 0 X.1.2.2.2.2 gL_law_X7_thrown rfl rfl rfl (by decide +kernel) ⟨Nat.le_of_ble_eq_true rfl, Nat.le_of_ble_eq_true rfl⟩) (ci := 7) rfl rfl rfl rfl hl rfl (Nat.le_of_ble_eq_true rfl) dL_law_1082 ⟨by show 100 + i + 1 + 0 ≤ 601024; omega, by show 3000 + 6 * i + 6 + 0 ≤ 7293034; omega⟩) (fun r_226 u H locs h hw => ?_)
  obtain ⟨vM_225, rfl⟩ : ∃ z, z = u := ⟨_, rfl⟩
  refine lv_iload hx hb dL_law_1085 (lv_at hl 1 rfl) ?_
  refine lv_icmp_eq (tgt := 1092) hx hb dL_law_1087 (by decide) (fun c_229 => ?_) (fun c_229 => ?_)
  · replace h := h.1 c_229
    refine lv_iload hx hb dL_law_1092 (lv_at hl 1 rfl) ?_
    refine lv_if_ne (tgt := 1109) hx hb dL_law_1094 (by decide) (fun c_228 => ?_) (fun c_228 => ?_)
    · replace h := h.1 c_228
      exact k_L_law_1109 X hfl hL hi hX hbl hbA aX aM aO hN _ _ _ _ _ _ h hw (lv_sub hl [2, 3, 4, 5, 6] rfl)
    replace h := h.2 c_228
    refine lv_aload_n hx hb dL_law_1097 rfl (lv_at hl 5 rfl) ?_
    refine lv_iconst (v := 0) hx hb dL_law_1098 (by decide) ?_
    refine r_lald (v := (vO_219 0)) X hw 69 rfl (vpl rfl) rfl dL_law_1099 ?_
    refine lv_iload hx hb dL_law_1100 (lv_at hl 0 rfl) ?_
    refine lv_i2l (v := Int32.toInt64 r_224) hx hb dL_law_1102 rfl ?_
    refine W.lcmp hx hb dL_law_1103 ?_
    refine lv_if_eq (tgt := 1109) hx hb dL_law_1104 (by decide) (fun c_227 => ?_) (fun c_227 => ?_)
    · replace h := h.1 c_227
      exact k_L_law_1109 X hfl hL hi hX hbl hbA aX aM aO hN _ _ _ _ _ _ h hw (lv_sub hl [2, 3, 4, 5, 6] rfl)
    replace h := h.2 c_227
    refine lv_iconst (v := 0) hx hb dL_law_1107 (by decide) ?_
    exact absurd h id
  replace h := h.2 c_229
  refine lv_iconst (v := 0) hx hb dL_law_1090 (by decide) ?_
  exact absurd h id
def wp_L_law_1165 (xs : Nat → Int32) (i : Nat) (N : XV → MV → OV → Prop) (vX : XV) (vM : MV) (vO : OV) : Prop := N vX vM vO
set_option maxHeartbeats 4000000 in
set_option maxRecDepth 100000 in
theorem k_L_law_1165 {p : Program} {l : Launch} {e : Env} {s : State} {m : MethodId} {below : List Frame} {meth : Method} {c : Code} {args : Array Value} {D : va_G} {t : T3} {A : Nat → Prop} {Z : State → Prop} {b L i : Nat} {xs : Nat → Int32} (X : Cx p s m meth c args cL_law 9 (some .boolean) RL wsL_law D t A) (hfl : l.stackTraces = false) (hL : L ≤ 2048) (hi : i + 4 ≤ L) (hX : va_X b L xs s s.heap) (hbl : b < s.heap.size) (hbA : ¬ A b) (aX : XA) (aM : MA) (aO : Nat) {N : XV → MV → OV → Prop} (hN : ∀ (vX : XV) (vM : MV) (vO : OV) (H : Heap) (locs : List Loc) (ls : Array Slot), N vX vM vO → Wd D A s.heap (xW t aX vX ++ (mW t aM vM ++ (oW t aO vO))) H locs → lv_has ls 9 [(0, .ref b), (1, .ref (XA.o aX)), (2, .ref (MA.o aM)), (3, .ref aO), (4, .int (nI i))] → W p l e room_1 s m args below meth c H locs (100 + i + 4) (3000 + 6 * i + 24) Z (F0 m 1385 ls [])) : ∀ (vX : XV) (vM : MV) (vO : OV) (H : Heap) (locs : List Loc) (ls : Array Slot), wp_L_law_1165 xs i N vX vM vO → Wd D A s.heap (xW t aX vX ++ (mW t aM vM ++ (oW t aO vO))) H locs → lv_has ls 9 [(0, .ref b), (1, .ref (XA.o aX)), (2, .ref (MA.o aM)), (3, .ref aO), (4, .int (nI i))] → W p l e room_1 s m args below meth c H locs (100 + i + 1) (3000 + 6 * i + 6) Z (F0 m 1165 ls []) := by
  intro vX vM vO H locs ls h hw hl
  have hx := X.1.1
  have hb := X.1.2.1
  refine lv_goto (tgt := 1385) hx hb dL_law_1165 (by decide) ?_
  refine W.widen (k := 100 + i + 4) (n := 3000 + 6 * i + 24) (by omega) (by omega) ?_
  exact hN _ _ _ _ _ _ h hw hl
def wp_L_law_1112 (xs : Nat → Int32) (i : Nat) (N : XV → MV → OV → Prop) (vX : XV) (vM : MV) (vO : OV) : Prop := wp_L_count vX vO (xs (i + 1)) (fun (r_234 : Int32) (vX_232 : XV) (vO_233 : OV) => wp_X7_count vM (xs (i + 1)) (fun (r_237 : Int32) (vM_236 : MV) => wp_X7_thrown vM_236  (fun (r_239 : Int32) (vM_238 : MV) => (r_239 = r_234 → (¬ r_234 = 0 → wp_L_law_1165 xs i N vX_232 vM_238 vO_233) ∧ (r_234 = 0 → ((lg_cmp (vO_233 0) (Int32.toInt64 r_237)) = 0 → wp_L_law_1165 xs i N vX_232 vM_238 vO_233) ∧ (¬ (lg_cmp (vO_233 0) (Int32.toInt64 r_237)) = 0 → False))) ∧ (¬ r_239 = r_234 → False))))
set_option maxHeartbeats 4000000 in
set_option maxRecDepth 100000 in
theorem k_L_law_1112 {p : Program} {l : Launch} {e : Env} {s : State} {m : MethodId} {below : List Frame} {meth : Method} {c : Code} {args : Array Value} {D : va_G} {t : T3} {A : Nat → Prop} {Z : State → Prop} {b L i : Nat} {xs : Nat → Int32} (X : Cx p s m meth c args cL_law 9 (some .boolean) RL wsL_law D t A) (hfl : l.stackTraces = false) (hL : L ≤ 2048) (hi : i + 4 ≤ L) (hX : va_X b L xs s s.heap) (hbl : b < s.heap.size) (hbA : ¬ A b) (aX : XA) (aM : MA) (aO : Nat) {N : XV → MV → OV → Prop} (hN : ∀ (vX : XV) (vM : MV) (vO : OV) (H : Heap) (locs : List Loc) (ls : Array Slot), N vX vM vO → Wd D A s.heap (xW t aX vX ++ (mW t aM vM ++ (oW t aO vO))) H locs → lv_has ls 9 [(0, .ref b), (1, .ref (XA.o aX)), (2, .ref (MA.o aM)), (3, .ref aO), (4, .int (nI i))] → W p l e room_1 s m args below meth c H locs (100 + i + 4) (3000 + 6 * i + 24) Z (F0 m 1385 ls [])) : ∀ (vX : XV) (vM : MV) (vO : OV) (H : Heap) (locs : List Loc) (ls : Array Slot), wp_L_law_1112 xs i N vX vM vO → Wd D A s.heap (xW t aX vX ++ (mW t aM vM ++ (oW t aO vO))) H locs → lv_has ls 9 [(0, .ref b), (1, .ref (XA.o aX)), (2, .ref (MA.o aM)), (3, .ref aO), (4, .int (nI i))] → W p l e room_1 s m args below meth c H locs (100 + i) (3000 + 6 * i) Z (F0 m 1112 ls []) := by
  intro vX vM vO H locs ls h hw hl
  have hx := X.1.1
  have hb := X.1.2.1
  refine lv_aload_n hx hb dL_law_1112 rfl (lv_at hl 1 rfl) ?_
  refine lv_aload_n hx hb dL_law_1113 rfl (lv_at hl 0 rfl) ?_
  refine lv_iload hx hb dL_law_1114 (lv_at hl 4 rfl) ?_
  refine lv_iconst (v := 1) hx hb dL_law_1116 (by decide) ?_
  refine lv_iadd hx hb dL_law_1117 ?_
  refine lv_topi (fun q_231 eq_231 => ?_)
  obtain rfl : q_231 = nI (i + 1) := eq_231.trans (nI_p1 i)
  refine r_sld X hw hX hbl hbA hL (j := (i + 1)) (by omega) dL_law_1118 ?_
  refine lv_aload_n hx hb dL_law_1119 rfl (lv_at hl 3 rfl) ?_
  refine r_ci X hw (pm_2 (pm_l pm_0) (pm_r (pm_r pm_0))) (wn := fun (u : XV × OV) => (xW t aX u.1 ++ (mW t aM vM ++ (oW t aO u.2)))) (fun u => (pm_2 (pm_l pm_0) (pm_r (pm_r pm_0))).symm) (r_runSW X hw (c_L_count l D t aX aO vX vO (xs (i + 1)) _ hfl h) (pm_2 (pm_l pm_0) (pm_r (pm_r pm_0))) (vx_cwSW 3 X.1.2.2.2.2 gL_law_L_count rfl rfl rfl (by decide +kernel) ⟨Nat.le_of_ble_eq_true rfl, Nat.le_of_ble_eq_true rfl⟩) rfl hl rfl (Nat.le_of_ble_eq_true rfl) dL_law_1120 ⟨by show 100 + i + 0 + 1 ≤ 601024; omega, by show 3000 + 6 * i + 0 + 6 ≤ 7293034; omega⟩) (fun r_234 u H locs h hw => ?_)
  obtain ⟨vX_232, vO_233⟩ := u
  refine lv_istore (lv' := [(5, .int r_234), (0, .ref b), (1, .ref (XA.o aX)), (2, .ref (MA.o aM)), (3, .ref aO), (4, .int (nI i))]) hx hb dL_law_1123 hl (by decide) rfl (fun ls hl => ?_)
  refine lv_aload_n hx hb dL_law_1125 rfl (lv_at hl 3 rfl) ?_
  refine lv_aload_n hx hb dL_law_1126 rfl (lv_at hl 1 rfl) ?_
  refine lv_iload hx hb dL_law_1127 (lv_at hl 5 rfl) ?_
  refine lv_iconst (v := 1) hx hb dL_law_1129 (by decide) ?_
  refine lv_iadd hx hb dL_law_1130 ?_
  refine lv_topi (fun q_235 eq_235 => ?_)
  obtain rfl : q_235 = nI (i + 1) := eq_235.trans (nI_p1 i)
  refine r_sld X hw hX hbl hbA hL (j := (i + 1)) (by omega) dL_law_1131 ?_
  refine r_ci X hw (pm_r (pm_l pm_0)) (wn := fun (u : MV) => (xW t aX vX_232 ++ (mW t aM u ++ (oW t aO vO_233)))) (fun u => (pm_r (pm_l pm_0)).symm) (r_runV X hw (c_X7_count l D t aM vM (xs (i + 1)) _ h) (pm_r (pm_l pm_0)) (cwV 1 X.1.2.2.2.2 gL_law_X7_count rfl rfl rfl (by decide +kernel) ⟨Nat.le_of_ble_eq_true rfl, Nat.le_of_ble_eq_true rfl⟩) (ci := 7) rfl rfl rfl rfl hl rfl (Nat.le_of_ble_eq_true rfl) dL_law_1132 ⟨by show 100 + i + 1 + 0 ≤ 601024; omega, by show 3000 + 6 * i + 6 + 0 ≤ 7293034; omega⟩) (fun r_237 u H locs h hw => ?_)
  obtain ⟨vM_236, rfl⟩ : ∃ z, z = u := ⟨_, rfl⟩
  refine lv_istore (lv' := [(6, .int r_237), (5, .int r_234), (0, .ref b), (1, .ref (XA.o aX)), (2, .ref (MA.o aM)), (3, .ref aO), (4, .int (nI i))]) hx hb dL_law_1135 hl (by decide) rfl (fun ls hl => ?_)
  refine lv_aload_n hx hb dL_law_1137 rfl (lv_at hl 4 rfl) ?_
  refine r_ci X hw (pm_r (pm_l pm_0)) (wn := fun (u : MV) => (xW t aX vX_232 ++ (mW t aM u ++ (oW t aO vO_233)))) (fun u => (pm_r (pm_l pm_0)).symm) (r_runV X hw (c_X7_thrown l D t aM vM_236 _ h) (pm_r (pm_l pm_0)) (cwV 0 X.1.2.2.2.2 gL_law_X7_thrown rfl rfl rfl (by decide +kernel) ⟨Nat.le_of_ble_eq_true rfl, Nat.le_of_ble_eq_true rfl⟩) (ci := 7) rfl rfl rfl rfl hl rfl (Nat.le_of_ble_eq_true rfl) dL_law_1138 ⟨by show 100 + i + 1 + 0 ≤ 601024; omega, by show 3000 + 6 * i + 6 + 0 ≤ 7293034; omega⟩) (fun r_239 u H locs h hw => ?_)
  obtain ⟨vM_238, rfl⟩ : ∃ z, z = u := ⟨_, rfl⟩
  refine lv_iload hx hb dL_law_1141 (lv_at hl 1 rfl) ?_
  refine lv_icmp_eq (tgt := 1148) hx hb dL_law_1143 (by decide) (fun c_242 => ?_) (fun c_242 => ?_)
  · replace h := h.1 c_242
    refine lv_iload hx hb dL_law_1148 (lv_at hl 1 rfl) ?_
    refine lv_if_ne (tgt := 1165) hx hb dL_law_1150 (by decide) (fun c_241 => ?_) (fun c_241 => ?_)
    · replace h := h.1 c_241
      exact k_L_law_1165 X hfl hL hi hX hbl hbA aX aM aO hN _ _ _ _ _ _ h hw (lv_sub hl [2, 3, 4, 5, 6] rfl)
    replace h := h.2 c_241
    refine lv_aload_n hx hb dL_law_1153 rfl (lv_at hl 5 rfl) ?_
    refine lv_iconst (v := 0) hx hb dL_law_1154 (by decide) ?_
    refine r_lald (v := (vO_233 0)) X hw 69 rfl (vpl rfl) rfl dL_law_1155 ?_
    refine lv_iload hx hb dL_law_1156 (lv_at hl 0 rfl) ?_
    refine lv_i2l (v := Int32.toInt64 r_237) hx hb dL_law_1158 rfl ?_
    refine W.lcmp hx hb dL_law_1159 ?_
    refine lv_if_eq (tgt := 1165) hx hb dL_law_1160 (by decide) (fun c_240 => ?_) (fun c_240 => ?_)
    · replace h := h.1 c_240
      exact k_L_law_1165 X hfl hL hi hX hbl hbA aX aM aO hN _ _ _ _ _ _ h hw (lv_sub hl [2, 3, 4, 5, 6] rfl)
    replace h := h.2 c_240
    refine lv_iconst (v := 0) hx hb dL_law_1163 (by decide) ?_
    exact absurd h id
  replace h := h.2 c_242
  refine lv_iconst (v := 0) hx hb dL_law_1146 (by decide) ?_
  exact absurd h id
