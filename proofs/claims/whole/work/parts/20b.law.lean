def wp_L_law_1233 (xs : Nat → Int32) (i : Nat) (N : XV → MV → OV → Prop) (vX : XV) (vM : MV) (vO : OV) : Prop := N vX vM vO
set_option maxHeartbeats 4000000 in
set_option maxRecDepth 100000 in
theorem k_L_law_1233 {p : Program} {l : Launch} {e : Env} {s : State} {m : MethodId} {below : List Frame} {meth : Method} {c : Code} {args : Array Value} {D : va_G} {t : T3} {A : Nat → Prop} {Z : State → Prop} {b L i : Nat} {xs : Nat → Int32} (X : Cx p s m meth c args cL_law 9 (some .boolean) RL wsL_law D t A) (hfl : l.stackTraces = false) (hL : L ≤ 2048) (hi : i + 4 ≤ L) (hX : va_X b L xs s s.heap) (hbl : b < s.heap.size) (hbA : ¬ A b) (aX : XA) (aM : MA) (aO : Nat) {N : XV → MV → OV → Prop} (hN : ∀ (vX : XV) (vM : MV) (vO : OV) (H : Heap) (locs : List Loc) (ls : Array Slot), N vX vM vO → Wd D A s.heap (xW t aX vX ++ (mW t aM vM ++ (oW t aO vO))) H locs → lv_has ls 9 [(0, .ref b), (1, .ref (XA.o aX)), (2, .ref (MA.o aM)), (3, .ref aO), (4, .int (nI i))] → W p l e room_1 s m args below meth c H locs (100 + i + 4) (3000 + 6 * i + 24) Z (F0 m 1385 ls [])) : ∀ (vX : XV) (vM : MV) (vO : OV) (H : Heap) (locs : List Loc) (ls : Array Slot), wp_L_law_1233 xs i N vX vM vO → Wd D A s.heap (xW t aX vX ++ (mW t aM vM ++ (oW t aO vO))) H locs → lv_has ls 9 [(0, .ref b), (1, .ref (XA.o aX)), (2, .ref (MA.o aM)), (3, .ref aO), (4, .int (nI i))] → W p l e room_1 s m args below meth c H locs (100 + i + 1) (3000 + 6 * i + 6) Z (F0 m 1233 ls []) := by
  intro vX vM vO H locs ls h hw hl
  have hx := X.1.1
  have hb := X.1.2.1
  refine lv_goto (tgt := 1385) hx hb dL_law_1233 (by decide) ?_
  refine W.widen (k := 100 + i + 4) (n := 3000 + 6 * i + 24) (by omega) (by omega) ?_
  exact hN _ _ _ _ _ _ h hw hl
def wp_L_law_1168 (xs : Nat → Int32) (i : Nat) (N : XV → MV → OV → Prop) (vX : XV) (vM : MV) (vO : OV) : Prop := wp_L_layings vX vO (xs (i + 1)) (xs (i + 2)) (fun (r_248 : Int32) (vX_246 : XV) (vO_247 : OV) => wp_X7_layings vM (xs (i + 1)) (xs (i + 2)) (fun (r_252 : Int32) (vM_251 : MV) => wp_X7_thrown vM_251  (fun (r_254 : Int32) (vM_253 : MV) => (r_254 = r_248 → (¬ r_248 = 0 → wp_L_law_1233 xs i N vX_246 vM_253 vO_247) ∧ (r_248 = 0 → ((lg_cmp (vO_247 0) (Int32.toInt64 r_252)) = 0 → wp_L_law_1233 xs i N vX_246 vM_253 vO_247) ∧ (¬ (lg_cmp (vO_247 0) (Int32.toInt64 r_252)) = 0 → False))) ∧ (¬ r_254 = r_248 → False))))
set_option maxHeartbeats 4000000 in
set_option maxRecDepth 100000 in
theorem k_L_law_1168 {p : Program} {l : Launch} {e : Env} {s : State} {m : MethodId} {below : List Frame} {meth : Method} {c : Code} {args : Array Value} {D : va_G} {t : T3} {A : Nat → Prop} {Z : State → Prop} {b L i : Nat} {xs : Nat → Int32} (X : Cx p s m meth c args cL_law 9 (some .boolean) RL wsL_law D t A) (hfl : l.stackTraces = false) (hL : L ≤ 2048) (hi : i + 4 ≤ L) (hX : va_X b L xs s s.heap) (hbl : b < s.heap.size) (hbA : ¬ A b) (aX : XA) (aM : MA) (aO : Nat) {N : XV → MV → OV → Prop} (hN : ∀ (vX : XV) (vM : MV) (vO : OV) (H : Heap) (locs : List Loc) (ls : Array Slot), N vX vM vO → Wd D A s.heap (xW t aX vX ++ (mW t aM vM ++ (oW t aO vO))) H locs → lv_has ls 9 [(0, .ref b), (1, .ref (XA.o aX)), (2, .ref (MA.o aM)), (3, .ref aO), (4, .int (nI i))] → W p l e room_1 s m args below meth c H locs (100 + i + 4) (3000 + 6 * i + 24) Z (F0 m 1385 ls [])) : ∀ (vX : XV) (vM : MV) (vO : OV) (H : Heap) (locs : List Loc) (ls : Array Slot), wp_L_law_1168 xs i N vX vM vO → Wd D A s.heap (xW t aX vX ++ (mW t aM vM ++ (oW t aO vO))) H locs → lv_has ls 9 [(0, .ref b), (1, .ref (XA.o aX)), (2, .ref (MA.o aM)), (3, .ref aO), (4, .int (nI i))] → W p l e room_1 s m args below meth c H locs (100 + i) (3000 + 6 * i) Z (F0 m 1168 ls []) := by
  intro vX vM vO H locs ls h hw hl
  have hx := X.1.1
  have hb := X.1.2.1
  refine lv_aload_n hx hb dL_law_1168 rfl (lv_at hl 1 rfl) ?_
  refine lv_aload_n hx hb dL_law_1169 rfl (lv_at hl 0 rfl) ?_
  refine lv_iload hx hb dL_law_1170 (lv_at hl 4 rfl) ?_
  refine lv_iconst (v := 1) hx hb dL_law_1172 (by decide) ?_
  refine lv_iadd hx hb dL_law_1173 ?_
  refine lv_topi (fun q_244 eq_244 => ?_)
  obtain rfl : q_244 = nI (i + 1) := eq_244.trans (nI_p1 i)
  refine r_sld X hw hX hbl hbA hL (j := (i + 1)) (by omega) dL_law_1174 ?_
  refine lv_aload_n hx hb dL_law_1175 rfl (lv_at hl 0 rfl) ?_
  refine lv_iload hx hb dL_law_1176 (lv_at hl 4 rfl) ?_
  refine lv_iconst (v := 2) hx hb dL_law_1178 (by decide) ?_
  refine lv_iadd hx hb dL_law_1179 ?_
  refine lv_topi (fun q_245 eq_245 => ?_)
  obtain rfl : q_245 = nI (i + 2) := eq_245.trans (nI_p2 i)
  refine r_sld X hw hX hbl hbA hL (j := (i + 2)) (by omega) dL_law_1180 ?_
  refine lv_aload_n hx hb dL_law_1181 rfl (lv_at hl 3 rfl) ?_
  refine r_ci X hw (pm_2 (pm_l pm_0) (pm_r (pm_r pm_0))) (wn := fun (u : XV × OV) => (xW t aX u.1 ++ (mW t aM vM ++ (oW t aO u.2)))) (fun u => (pm_2 (pm_l pm_0) (pm_r (pm_r pm_0))).symm) (r_runSW X hw (c_L_layings l D t aX aO vX vO (xs (i + 1)) (xs (i + 2)) _ hfl h) (pm_2 (pm_l pm_0) (pm_r (pm_r pm_0))) (vx_cwSW 4 X.1.2.2.2.2 gL_law_L_layings rfl rfl rfl (by decide +kernel) ⟨Nat.le_of_ble_eq_true rfl, Nat.le_of_ble_eq_true rfl⟩) rfl hl rfl (Nat.le_of_ble_eq_true rfl) dL_law_1182 ⟨by show 100 + i + 0 + 1 ≤ 601024; omega, by show 3000 + 6 * i + 0 + 6 ≤ 7293034; omega⟩) (fun r_248 u H locs h hw => ?_)
  obtain ⟨vX_246, vO_247⟩ := u
  refine lv_istore (lv' := [(5, .int r_248), (0, .ref b), (1, .ref (XA.o aX)), (2, .ref (MA.o aM)), (3, .ref aO), (4, .int (nI i))]) hx hb dL_law_1185 hl (by decide) rfl (fun ls hl => ?_)
  refine lv_aload_n hx hb dL_law_1187 rfl (lv_at hl 3 rfl) ?_
  refine lv_aload_n hx hb dL_law_1188 rfl (lv_at hl 1 rfl) ?_
  refine lv_iload hx hb dL_law_1189 (lv_at hl 5 rfl) ?_
  refine lv_iconst (v := 1) hx hb dL_law_1191 (by decide) ?_
  refine lv_iadd hx hb dL_law_1192 ?_
  refine lv_topi (fun q_249 eq_249 => ?_)
  obtain rfl : q_249 = nI (i + 1) := eq_249.trans (nI_p1 i)
  refine r_sld X hw hX hbl hbA hL (j := (i + 1)) (by omega) dL_law_1193 ?_
  refine lv_aload_n hx hb dL_law_1194 rfl (lv_at hl 1 rfl) ?_
  refine lv_iload hx hb dL_law_1195 (lv_at hl 5 rfl) ?_
  refine lv_iconst (v := 2) hx hb dL_law_1197 (by decide) ?_
  refine lv_iadd hx hb dL_law_1198 ?_
  refine lv_topi (fun q_250 eq_250 => ?_)
  obtain rfl : q_250 = nI (i + 2) := eq_250.trans (nI_p2 i)
  refine r_sld X hw hX hbl hbA hL (j := (i + 2)) (by omega) dL_law_1199 ?_
  refine r_ci X hw (pm_r (pm_l pm_0)) (wn := fun (u : MV) => (xW t aX vX_246 ++ (mW t aM u ++ (oW t aO vO_247)))) (fun u => (pm_r (pm_l pm_0)).symm) (r_runV X hw (c_X7_layings l D t aM vM (xs (i + 1)) (xs (i + 2)) _ h) (pm_r (pm_l pm_0)) (cwV 2 X.1.2.2.2.2 gL_law_X7_layings rfl rfl rfl (by decide +kernel) ⟨Nat.le_of_ble_eq_true rfl, Nat.le_of_ble_eq_true rfl⟩) (ci := 7) rfl rfl rfl rfl hl rfl (Nat.le_of_ble_eq_true rfl) dL_law_1200 ⟨by show 100 + i + 1 + 0 ≤ 601024; omega, by show 3000 + 6 * i + 6 + 0 ≤ 7293034; omega⟩) (fun r_252 u H locs h hw => ?_)
  obtain ⟨vM_251, rfl⟩ : ∃ z, z = u := ⟨_, rfl⟩
  refine lv_istore (lv' := [(6, .int r_252), (5, .int r_248), (0, .ref b), (1, .ref (XA.o aX)), (2, .ref (MA.o aM)), (3, .ref aO), (4, .int (nI i))]) hx hb dL_law_1203 hl (by decide) rfl (fun ls hl => ?_)
  refine lv_aload_n hx hb dL_law_1205 rfl (lv_at hl 4 rfl) ?_
  refine r_ci X hw (pm_r (pm_l pm_0)) (wn := fun (u : MV) => (xW t aX vX_246 ++ (mW t aM u ++ (oW t aO vO_247)))) (fun u => (pm_r (pm_l pm_0)).symm) (r_runV X hw (c_X7_thrown l D t aM vM_251 _ h) (pm_r (pm_l pm_0)) (cwV 0 X.1.2.2.2.2 gL_law_X7_thrown rfl rfl rfl (by decide +kernel) ⟨Nat.le_of_ble_eq_true rfl, Nat.le_of_ble_eq_true rfl⟩) (ci := 7) rfl rfl rfl rfl hl rfl (Nat.le_of_ble_eq_true rfl) dL_law_1206 ⟨by show 100 + i + 1 + 0 ≤ 601024; omega, by show 3000 + 6 * i + 6 + 0 ≤ 7293034; omega⟩) (fun r_254 u H locs h hw => ?_)
  obtain ⟨vM_253, rfl⟩ : ∃ z, z = u := ⟨_, rfl⟩
  refine lv_iload hx hb dL_law_1209 (lv_at hl 1 rfl) ?_
  refine lv_icmp_eq (tgt := 1216) hx hb dL_law_1211 (by decide) (fun c_257 => ?_) (fun c_257 => ?_)
  · replace h := h.1 c_257
    refine lv_iload hx hb dL_law_1216 (lv_at hl 1 rfl) ?_
    refine lv_if_ne (tgt := 1233) hx hb dL_law_1218 (by decide) (fun c_256 => ?_) (fun c_256 => ?_)
    · replace h := h.1 c_256
      exact k_L_law_1233 X hfl hL hi hX hbl hbA aX aM aO hN _ _ _ _ _ _ h hw (lv_sub hl [2, 3, 4, 5, 6] rfl)
    replace h := h.2 c_256
    refine lv_aload_n hx hb dL_law_1221 rfl (lv_at hl 5 rfl) ?_
    refine lv_iconst (v := 0) hx hb dL_law_1222 (by decide) ?_
    refine r_lald (v := (vO_247 0)) X hw 69 rfl (vpl rfl) rfl dL_law_1223 ?_
    refine lv_iload hx hb dL_law_1224 (lv_at hl 0 rfl) ?_
    refine lv_i2l (v := Int32.toInt64 r_252) hx hb dL_law_1226 rfl ?_
    refine W.lcmp hx hb dL_law_1227 ?_
    refine lv_if_eq (tgt := 1233) hx hb dL_law_1228 (by decide) (fun c_255 => ?_) (fun c_255 => ?_)
    · replace h := h.1 c_255
      exact k_L_law_1233 X hfl hL hi hX hbl hbA aX aM aO hN _ _ _ _ _ _ h hw (lv_sub hl [2, 3, 4, 5, 6] rfl)
    replace h := h.2 c_255
    refine lv_iconst (v := 0) hx hb dL_law_1231 (by decide) ?_
    exact absurd h id
  replace h := h.2 c_257
  refine lv_iconst (v := 0) hx hb dL_law_1214 (by decide) ?_
  exact absurd h id
def wp_L_law_1236 (xs : Nat → Int32) (i : Nat) (N : XV → MV → OV → Prop) (vX : XV) (vM : MV) (vO : OV) : Prop := wp_X6_hint vX  (fun (r_260 : Int32) (vX_259 : XV) => wp_X7_hint vM  (fun (r_262 : Int32) (vM_261 : MV) => (r_260 = r_262 → N vX_259 vM_261 vO) ∧ (¬ r_260 = r_262 → False)))
set_option maxHeartbeats 4000000 in
set_option maxRecDepth 100000 in
theorem k_L_law_1236 {p : Program} {l : Launch} {e : Env} {s : State} {m : MethodId} {below : List Frame} {meth : Method} {c : Code} {args : Array Value} {D : va_G} {t : T3} {A : Nat → Prop} {Z : State → Prop} {b L i : Nat} {xs : Nat → Int32} (X : Cx p s m meth c args cL_law 9 (some .boolean) RL wsL_law D t A) (hfl : l.stackTraces = false) (hL : L ≤ 2048) (hi : i + 4 ≤ L) (hX : va_X b L xs s s.heap) (hbl : b < s.heap.size) (hbA : ¬ A b) (aX : XA) (aM : MA) (aO : Nat) {N : XV → MV → OV → Prop} (hN : ∀ (vX : XV) (vM : MV) (vO : OV) (H : Heap) (locs : List Loc) (ls : Array Slot), N vX vM vO → Wd D A s.heap (xW t aX vX ++ (mW t aM vM ++ (oW t aO vO))) H locs → lv_has ls 9 [(0, .ref b), (1, .ref (XA.o aX)), (2, .ref (MA.o aM)), (3, .ref aO), (4, .int (nI i))] → W p l e room_1 s m args below meth c H locs (100 + i + 4) (3000 + 6 * i + 24) Z (F0 m 1385 ls [])) : ∀ (vX : XV) (vM : MV) (vO : OV) (H : Heap) (locs : List Loc) (ls : Array Slot), wp_L_law_1236 xs i N vX vM vO → Wd D A s.heap (xW t aX vX ++ (mW t aM vM ++ (oW t aO vO))) H locs → lv_has ls 9 [(0, .ref b), (1, .ref (XA.o aX)), (2, .ref (MA.o aM)), (3, .ref aO), (4, .int (nI i))] → W p l e room_1 s m args below meth c H locs (100 + i) (3000 + 6 * i) Z (F0 m 1236 ls []) := by
  intro vX vM vO H locs ls h hw hl
  have hx := X.1.1
  have hb := X.1.2.1
  refine lv_aload_n hx hb dL_law_1236 rfl (lv_at hl 1 rfl) ?_
  refine r_ci X hw (pm_l pm_0) (wn := fun (u : XV) => (xW t aX u ++ (mW t aM vM ++ (oW t aO vO)))) (fun u => (pm_l pm_0).symm) (r_runV X hw (c_X6_hint l D t aX vX _ h) (pm_l pm_0) (cwV 0 X.1.2.2.2.2 gL_law_X6_hint rfl rfl rfl (by decide +kernel) ⟨Nat.le_of_ble_eq_true rfl, Nat.le_of_ble_eq_true rfl⟩) (ci := 6) rfl rfl rfl rfl hl rfl (Nat.le_of_ble_eq_true rfl) dL_law_1237 ⟨by show 100 + i + 0 + 0 ≤ 601024; omega, by show 3000 + 6 * i + 0 + 0 ≤ 7293034; omega⟩) (fun r_260 u H locs h hw => ?_)
  obtain ⟨vX_259, rfl⟩ : ∃ z, z = u := ⟨_, rfl⟩
  refine lv_aload_n hx hb dL_law_1240 rfl (lv_at hl 2 rfl) ?_
  refine r_ci X hw (pm_r (pm_l pm_0)) (wn := fun (u : MV) => (xW t aX vX_259 ++ (mW t aM u ++ (oW t aO vO)))) (fun u => (pm_r (pm_l pm_0)).symm) (r_runV X hw (c_X7_hint l D t aM vM _ h) (pm_r (pm_l pm_0)) (cwV 0 X.1.2.2.2.2 gL_law_X7_hint rfl rfl rfl (by decide +kernel) ⟨Nat.le_of_ble_eq_true rfl, Nat.le_of_ble_eq_true rfl⟩) (ci := 7) rfl rfl rfl rfl hl rfl (Nat.le_of_ble_eq_true rfl) dL_law_1241 ⟨by show 100 + i + 0 + 0 ≤ 601024; omega, by show 3000 + 6 * i + 0 + 0 ≤ 7293034; omega⟩) (fun r_262 u H locs h hw => ?_)
  obtain ⟨vM_261, rfl⟩ : ∃ z, z = u := ⟨_, rfl⟩
  refine lv_icmp_eq (tgt := 1385) hx hb dL_law_1244 (by decide) (fun c_263 => ?_) (fun c_263 => ?_)
  · replace h := h.1 c_263
    refine W.widen (k := 100 + i + 4) (n := 3000 + 6 * i + 24) (by omega) (by omega) ?_
    exact hN _ _ _ _ _ _ h hw hl
  replace h := h.2 c_263
  refine lv_iconst (v := 0) hx hb dL_law_1247 (by decide) ?_
  exact absurd h id
def wp_L_law_1249 (xs : Nat → Int32) (i : Nat) (N : XV → MV → OV → Prop) (vX : XV) (vM : MV) (vO : OV) : Prop := wp_X6_starts vX  (fun (r_266 : Int32) (vX_265 : XV) => wp_X7_starts vM  (fun (r_268 : Int32) (vM_267 : MV) => (r_266 = r_268 → N vX_265 vM_267 vO) ∧ (¬ r_266 = r_268 → False)))
set_option maxHeartbeats 4000000 in
set_option maxRecDepth 100000 in
theorem k_L_law_1249 {p : Program} {l : Launch} {e : Env} {s : State} {m : MethodId} {below : List Frame} {meth : Method} {c : Code} {args : Array Value} {D : va_G} {t : T3} {A : Nat → Prop} {Z : State → Prop} {b L i : Nat} {xs : Nat → Int32} (X : Cx p s m meth c args cL_law 9 (some .boolean) RL wsL_law D t A) (hfl : l.stackTraces = false) (hL : L ≤ 2048) (hi : i + 4 ≤ L) (hX : va_X b L xs s s.heap) (hbl : b < s.heap.size) (hbA : ¬ A b) (aX : XA) (aM : MA) (aO : Nat) {N : XV → MV → OV → Prop} (hN : ∀ (vX : XV) (vM : MV) (vO : OV) (H : Heap) (locs : List Loc) (ls : Array Slot), N vX vM vO → Wd D A s.heap (xW t aX vX ++ (mW t aM vM ++ (oW t aO vO))) H locs → lv_has ls 9 [(0, .ref b), (1, .ref (XA.o aX)), (2, .ref (MA.o aM)), (3, .ref aO), (4, .int (nI i))] → W p l e room_1 s m args below meth c H locs (100 + i + 4) (3000 + 6 * i + 24) Z (F0 m 1385 ls [])) : ∀ (vX : XV) (vM : MV) (vO : OV) (H : Heap) (locs : List Loc) (ls : Array Slot), wp_L_law_1249 xs i N vX vM vO → Wd D A s.heap (xW t aX vX ++ (mW t aM vM ++ (oW t aO vO))) H locs → lv_has ls 9 [(0, .ref b), (1, .ref (XA.o aX)), (2, .ref (MA.o aM)), (3, .ref aO), (4, .int (nI i))] → W p l e room_1 s m args below meth c H locs (100 + i) (3000 + 6 * i) Z (F0 m 1249 ls []) := by
  intro vX vM vO H locs ls h hw hl
  have hx := X.1.1
  have hb := X.1.2.1
  refine lv_aload_n hx hb dL_law_1249 rfl (lv_at hl 1 rfl) ?_
  refine r_ci X hw (pm_l pm_0) (wn := fun (u : XV) => (xW t aX u ++ (mW t aM vM ++ (oW t aO vO)))) (fun u => (pm_l pm_0).symm) (r_runV X hw (c_X6_starts l D t aX vX _ h) (pm_l pm_0) (cwV 0 X.1.2.2.2.2 gL_law_X6_starts rfl rfl rfl (by decide +kernel) ⟨Nat.le_of_ble_eq_true rfl, Nat.le_of_ble_eq_true rfl⟩) (ci := 6) rfl rfl rfl rfl hl rfl (Nat.le_of_ble_eq_true rfl) dL_law_1250 ⟨by show 100 + i + 0 + 0 ≤ 601024; omega, by show 3000 + 6 * i + 0 + 0 ≤ 7293034; omega⟩) (fun r_266 u H locs h hw => ?_)
  obtain ⟨vX_265, rfl⟩ : ∃ z, z = u := ⟨_, rfl⟩
  refine lv_aload_n hx hb dL_law_1253 rfl (lv_at hl 2 rfl) ?_
  refine r_ci X hw (pm_r (pm_l pm_0)) (wn := fun (u : MV) => (xW t aX vX_265 ++ (mW t aM u ++ (oW t aO vO)))) (fun u => (pm_r (pm_l pm_0)).symm) (r_runV X hw (c_X7_starts l D t aM vM _ h) (pm_r (pm_l pm_0)) (cwV 0 X.1.2.2.2.2 gL_law_X7_starts rfl rfl rfl (by decide +kernel) ⟨Nat.le_of_ble_eq_true rfl, Nat.le_of_ble_eq_true rfl⟩) (ci := 7) rfl rfl rfl rfl hl rfl (Nat.le_of_ble_eq_true rfl) dL_law_1254 ⟨by show 100 + i + 0 + 0 ≤ 601024; omega, by show 3000 + 6 * i + 0 + 0 ≤ 7293034; omega⟩) (fun r_268 u H locs h hw => ?_)
  obtain ⟨vM_267, rfl⟩ : ∃ z, z = u := ⟨_, rfl⟩
  refine lv_icmp_eq (tgt := 1385) hx hb dL_law_1257 (by decide) (fun c_269 => ?_) (fun c_269 => ?_)
  · replace h := h.1 c_269
    refine W.widen (k := 100 + i + 4) (n := 3000 + 6 * i + 24) (by omega) (by omega) ?_
    exact hN _ _ _ _ _ _ h hw hl
  replace h := h.2 c_269
  refine lv_iconst (v := 0) hx hb dL_law_1260 (by decide) ?_
  exact absurd h id
def wp_L_law_1327 (xs : Nat → Int32) (i : Nat) (N : XV → MV → OV → Prop) (vX : XV) (vM : MV) (vO : OV) : Prop := N vX vM vO
set_option maxHeartbeats 4000000 in
set_option maxRecDepth 100000 in
theorem k_L_law_1327 {p : Program} {l : Launch} {e : Env} {s : State} {m : MethodId} {below : List Frame} {meth : Method} {c : Code} {args : Array Value} {D : va_G} {t : T3} {A : Nat → Prop} {Z : State → Prop} {b L i : Nat} {xs : Nat → Int32} (X : Cx p s m meth c args cL_law 9 (some .boolean) RL wsL_law D t A) (hfl : l.stackTraces = false) (hL : L ≤ 2048) (hi : i + 4 ≤ L) (hX : va_X b L xs s s.heap) (hbl : b < s.heap.size) (hbA : ¬ A b) (aX : XA) (aM : MA) (aO : Nat) {N : XV → MV → OV → Prop} (hN : ∀ (vX : XV) (vM : MV) (vO : OV) (H : Heap) (locs : List Loc) (ls : Array Slot), N vX vM vO → Wd D A s.heap (xW t aX vX ++ (mW t aM vM ++ (oW t aO vO))) H locs → lv_has ls 9 [(0, .ref b), (1, .ref (XA.o aX)), (2, .ref (MA.o aM)), (3, .ref aO), (4, .int (nI i))] → W p l e room_1 s m args below meth c H locs (100 + i + 4) (3000 + 6 * i + 24) Z (F0 m 1385 ls [])) : ∀ (vX : XV) (vM : MV) (vO : OV) (H : Heap) (locs : List Loc) (ls : Array Slot), wp_L_law_1327 xs i N vX vM vO → Wd D A s.heap (xW t aX vX ++ (mW t aM vM ++ (oW t aO vO))) H locs → lv_has ls 9 [(0, .ref b), (1, .ref (XA.o aX)), (2, .ref (MA.o aM)), (3, .ref aO), (4, .int (nI i))] → W p l e room_1 s m args below meth c H locs (100 + i + 2) (3000 + 6 * i + 12) Z (F0 m 1327 ls []) := by
  intro vX vM vO H locs ls h hw hl
  have hx := X.1.1
  have hb := X.1.2.1
  refine lv_goto (tgt := 1385) hx hb dL_law_1327 (by decide) ?_
  refine W.widen (k := 100 + i + 4) (n := 3000 + 6 * i + 24) (by omega) (by omega) ?_
  exact hN _ _ _ _ _ _ h hw hl
def wp_L_law_1262 (xs : Nat → Int32) (i : Nat) (N : XV → MV → OV → Prop) (vX : XV) (vM : MV) (vO : OV) : Prop := wp_L_why vX vO (xs (i + 1)) (xs (i + 2)) (fun (r_275 : Int32) (vX_273 : XV) (vO_274 : OV) => wp_X7_why vM (xs (i + 1)) (xs (i + 2)) (fun (r_279 : Int32) (vM_278 : MV) => wp_X7_thrown vM_278  (fun (r_281 : Int32) (vM_280 : MV) => (r_281 = r_275 → (¬ r_275 = 0 → wp_L_law_1327 xs i N vX_273 vM_280 vO_274) ∧ (r_275 = 0 → ((lg_cmp (vO_274 0) (Int32.toInt64 r_279)) = 0 → wp_L_law_1327 xs i N vX_273 vM_280 vO_274) ∧ (¬ (lg_cmp (vO_274 0) (Int32.toInt64 r_279)) = 0 → False))) ∧ (¬ r_281 = r_275 → False))))
set_option maxHeartbeats 4000000 in
set_option maxRecDepth 100000 in
theorem k_L_law_1262 {p : Program} {l : Launch} {e : Env} {s : State} {m : MethodId} {below : List Frame} {meth : Method} {c : Code} {args : Array Value} {D : va_G} {t : T3} {A : Nat → Prop} {Z : State → Prop} {b L i : Nat} {xs : Nat → Int32} (X : Cx p s m meth c args cL_law 9 (some .boolean) RL wsL_law D t A) (hfl : l.stackTraces = false) (hL : L ≤ 2048) (hi : i + 4 ≤ L) (hX : va_X b L xs s s.heap) (hbl : b < s.heap.size) (hbA : ¬ A b) (aX : XA) (aM : MA) (aO : Nat) {N : XV → MV → OV → Prop} (hN : ∀ (vX : XV) (vM : MV) (vO : OV) (H : Heap) (locs : List Loc) (ls : Array Slot), N vX vM vO → Wd D A s.heap (xW t aX vX ++ (mW t aM vM ++ (oW t aO vO))) H locs → lv_has ls 9 [(0, .ref b), (1, .ref (XA.o aX)), (2, .ref (MA.o aM)), (3, .ref aO), (4, .int (nI i))] → W p l e room_1 s m args below meth c H locs (100 + i + 4) (3000 + 6 * i + 24) Z (F0 m 1385 ls [])) : ∀ (vX : XV) (vM : MV) (vO : OV) (H : Heap) (locs : List Loc) (ls : Array Slot), wp_L_law_1262 xs i N vX vM vO → Wd D A s.heap (xW t aX vX ++ (mW t aM vM ++ (oW t aO vO))) H locs → lv_has ls 9 [(0, .ref b), (1, .ref (XA.o aX)), (2, .ref (MA.o aM)), (3, .ref aO), (4, .int (nI i))] → W p l e room_1 s m args below meth c H locs (100 + i) (3000 + 6 * i) Z (F0 m 1262 ls []) := by
  intro vX vM vO H locs ls h hw hl
  have hx := X.1.1
  have hb := X.1.2.1
  refine lv_aload_n hx hb dL_law_1262 rfl (lv_at hl 1 rfl) ?_
  refine lv_aload_n hx hb dL_law_1263 rfl (lv_at hl 0 rfl) ?_
  refine lv_iload hx hb dL_law_1264 (lv_at hl 4 rfl) ?_
  refine lv_iconst (v := 1) hx hb dL_law_1266 (by decide) ?_
  refine lv_iadd hx hb dL_law_1267 ?_
  refine lv_topi (fun q_271 eq_271 => ?_)
  obtain rfl : q_271 = nI (i + 1) := eq_271.trans (nI_p1 i)
  refine r_sld X hw hX hbl hbA hL (j := (i + 1)) (by omega) dL_law_1268 ?_
  refine lv_aload_n hx hb dL_law_1269 rfl (lv_at hl 0 rfl) ?_
  refine lv_iload hx hb dL_law_1270 (lv_at hl 4 rfl) ?_
  refine lv_iconst (v := 2) hx hb dL_law_1272 (by decide) ?_
  refine lv_iadd hx hb dL_law_1273 ?_
  refine lv_topi (fun q_272 eq_272 => ?_)
  obtain rfl : q_272 = nI (i + 2) := eq_272.trans (nI_p2 i)
  refine r_sld X hw hX hbl hbA hL (j := (i + 2)) (by omega) dL_law_1274 ?_
  refine lv_aload_n hx hb dL_law_1275 rfl (lv_at hl 3 rfl) ?_
  refine r_ci X hw (pm_2 (pm_l pm_0) (pm_r (pm_r pm_0))) (wn := fun (u : XV × OV) => (xW t aX u.1 ++ (mW t aM vM ++ (oW t aO u.2)))) (fun u => (pm_2 (pm_l pm_0) (pm_r (pm_r pm_0))).symm) (r_runSW X hw (c_L_why l D t aX aO vX vO (xs (i + 1)) (xs (i + 2)) _ hfl h) (pm_2 (pm_l pm_0) (pm_r (pm_r pm_0))) (vx_cwSW 4 X.1.2.2.2.2 gL_law_L_why rfl rfl rfl (by decide +kernel) ⟨Nat.le_of_ble_eq_true rfl, Nat.le_of_ble_eq_true rfl⟩) rfl hl rfl (Nat.le_of_ble_eq_true rfl) dL_law_1276 ⟨by show 100 + i + 0 + 2 ≤ 601024; omega, by show 3000 + 6 * i + 0 + 12 ≤ 7293034; omega⟩) (fun r_275 u H locs h hw => ?_)
  obtain ⟨vX_273, vO_274⟩ := u
  refine lv_istore (lv' := [(5, .int r_275), (0, .ref b), (1, .ref (XA.o aX)), (2, .ref (MA.o aM)), (3, .ref aO), (4, .int (nI i))]) hx hb dL_law_1279 hl (by decide) rfl (fun ls hl => ?_)
  refine lv_aload_n hx hb dL_law_1281 rfl (lv_at hl 3 rfl) ?_
  refine lv_aload_n hx hb dL_law_1282 rfl (lv_at hl 1 rfl) ?_
  refine lv_iload hx hb dL_law_1283 (lv_at hl 5 rfl) ?_
  refine lv_iconst (v := 1) hx hb dL_law_1285 (by decide) ?_
  refine lv_iadd hx hb dL_law_1286 ?_
  refine lv_topi (fun q_276 eq_276 => ?_)
  obtain rfl : q_276 = nI (i + 1) := eq_276.trans (nI_p1 i)
  refine r_sld X hw hX hbl hbA hL (j := (i + 1)) (by omega) dL_law_1287 ?_
  refine lv_aload_n hx hb dL_law_1288 rfl (lv_at hl 1 rfl) ?_
  refine lv_iload hx hb dL_law_1289 (lv_at hl 5 rfl) ?_
  refine lv_iconst (v := 2) hx hb dL_law_1291 (by decide) ?_
  refine lv_iadd hx hb dL_law_1292 ?_
  refine lv_topi (fun q_277 eq_277 => ?_)
  obtain rfl : q_277 = nI (i + 2) := eq_277.trans (nI_p2 i)
  refine r_sld X hw hX hbl hbA hL (j := (i + 2)) (by omega) dL_law_1293 ?_
  refine r_ci X hw (pm_r (pm_l pm_0)) (wn := fun (u : MV) => (xW t aX vX_273 ++ (mW t aM u ++ (oW t aO vO_274)))) (fun u => (pm_r (pm_l pm_0)).symm) (r_runV X hw (c_X7_why l D t aM vM (xs (i + 1)) (xs (i + 2)) _ h) (pm_r (pm_l pm_0)) (cwV 2 X.1.2.2.2.2 gL_law_X7_why rfl rfl rfl (by decide +kernel) ⟨Nat.le_of_ble_eq_true rfl, Nat.le_of_ble_eq_true rfl⟩) (ci := 7) rfl rfl rfl rfl hl rfl (Nat.le_of_ble_eq_true rfl) dL_law_1294 ⟨by show 100 + i + 2 + 0 ≤ 601024; omega, by show 3000 + 6 * i + 12 + 0 ≤ 7293034; omega⟩) (fun r_279 u H locs h hw => ?_)
  obtain ⟨vM_278, rfl⟩ : ∃ z, z = u := ⟨_, rfl⟩
  refine lv_istore (lv' := [(6, .int r_279), (5, .int r_275), (0, .ref b), (1, .ref (XA.o aX)), (2, .ref (MA.o aM)), (3, .ref aO), (4, .int (nI i))]) hx hb dL_law_1297 hl (by decide) rfl (fun ls hl => ?_)
  refine lv_aload_n hx hb dL_law_1299 rfl (lv_at hl 4 rfl) ?_
  refine r_ci X hw (pm_r (pm_l pm_0)) (wn := fun (u : MV) => (xW t aX vX_273 ++ (mW t aM u ++ (oW t aO vO_274)))) (fun u => (pm_r (pm_l pm_0)).symm) (r_runV X hw (c_X7_thrown l D t aM vM_278 _ h) (pm_r (pm_l pm_0)) (cwV 0 X.1.2.2.2.2 gL_law_X7_thrown rfl rfl rfl (by decide +kernel) ⟨Nat.le_of_ble_eq_true rfl, Nat.le_of_ble_eq_true rfl⟩) (ci := 7) rfl rfl rfl rfl hl rfl (Nat.le_of_ble_eq_true rfl) dL_law_1300 ⟨by show 100 + i + 2 + 0 ≤ 601024; omega, by show 3000 + 6 * i + 12 + 0 ≤ 7293034; omega⟩) (fun r_281 u H locs h hw => ?_)
  obtain ⟨vM_280, rfl⟩ : ∃ z, z = u := ⟨_, rfl⟩
  refine lv_iload hx hb dL_law_1303 (lv_at hl 1 rfl) ?_
  refine lv_icmp_eq (tgt := 1310) hx hb dL_law_1305 (by decide) (fun c_284 => ?_) (fun c_284 => ?_)
  · replace h := h.1 c_284
    refine lv_iload hx hb dL_law_1310 (lv_at hl 1 rfl) ?_
    refine lv_if_ne (tgt := 1327) hx hb dL_law_1312 (by decide) (fun c_283 => ?_) (fun c_283 => ?_)
    · replace h := h.1 c_283
      exact k_L_law_1327 X hfl hL hi hX hbl hbA aX aM aO hN _ _ _ _ _ _ h hw (lv_sub hl [2, 3, 4, 5, 6] rfl)
    replace h := h.2 c_283
    refine lv_aload_n hx hb dL_law_1315 rfl (lv_at hl 5 rfl) ?_
    refine lv_iconst (v := 0) hx hb dL_law_1316 (by decide) ?_
    refine r_lald (v := (vO_274 0)) X hw 69 rfl (vpl rfl) rfl dL_law_1317 ?_
    refine lv_iload hx hb dL_law_1318 (lv_at hl 0 rfl) ?_
    refine lv_i2l (v := Int32.toInt64 r_279) hx hb dL_law_1320 rfl ?_
    refine W.lcmp hx hb dL_law_1321 ?_
    refine lv_if_eq (tgt := 1327) hx hb dL_law_1322 (by decide) (fun c_282 => ?_) (fun c_282 => ?_)
    · replace h := h.1 c_282
      exact k_L_law_1327 X hfl hL hi hX hbl hbA aX aM aO hN _ _ _ _ _ _ h hw (lv_sub hl [2, 3, 4, 5, 6] rfl)
    replace h := h.2 c_282
    refine lv_iconst (v := 0) hx hb dL_law_1325 (by decide) ?_
    exact absurd h id
  replace h := h.2 c_284
  refine lv_iconst (v := 0) hx hb dL_law_1308 (by decide) ?_
  exact absurd h id
def wp_L_law_1368 (xs : Nat → Int32) (i : Nat) (N : XV → MV → OV → Prop) (vX : XV) (vM : MV) (vO : OV) : Prop := N vX vM vO
set_option maxHeartbeats 4000000 in
set_option maxRecDepth 100000 in
theorem k_L_law_1368 {p : Program} {l : Launch} {e : Env} {s : State} {m : MethodId} {below : List Frame} {meth : Method} {c : Code} {args : Array Value} {D : va_G} {t : T3} {A : Nat → Prop} {Z : State → Prop} {b L i : Nat} {xs : Nat → Int32} (X : Cx p s m meth c args cL_law 9 (some .boolean) RL wsL_law D t A) (hfl : l.stackTraces = false) (hL : L ≤ 2048) (hi : i + 4 ≤ L) (hX : va_X b L xs s s.heap) (hbl : b < s.heap.size) (hbA : ¬ A b) (aX : XA) (aM : MA) (aO : Nat) {N : XV → MV → OV → Prop} (hN : ∀ (vX : XV) (vM : MV) (vO : OV) (H : Heap) (locs : List Loc) (ls : Array Slot), N vX vM vO → Wd D A s.heap (xW t aX vX ++ (mW t aM vM ++ (oW t aO vO))) H locs → lv_has ls 9 [(0, .ref b), (1, .ref (XA.o aX)), (2, .ref (MA.o aM)), (3, .ref aO), (4, .int (nI i))] → W p l e room_1 s m args below meth c H locs (100 + i + 4) (3000 + 6 * i + 24) Z (F0 m 1385 ls [])) : ∀ (vX : XV) (vM : MV) (vO : OV) (H : Heap) (locs : List Loc) (ls : Array Slot), wp_L_law_1368 xs i N vX vM vO → Wd D A s.heap (xW t aX vX ++ (mW t aM vM ++ (oW t aO vO))) H locs → lv_has ls 9 [(0, .ref b), (1, .ref (XA.o aX)), (2, .ref (MA.o aM)), (3, .ref aO), (4, .int (nI i))] → W p l e room_1 s m args below meth c H locs (100 + i) (3000 + 6 * i) Z (F0 m 1368 ls []) := by
  intro vX vM vO H locs ls h hw hl
  have hx := X.1.1
  have hb := X.1.2.1
  refine lv_goto (tgt := 1385) hx hb dL_law_1368 (by decide) ?_
  refine W.widen (k := 100 + i + 4) (n := 3000 + 6 * i + 24) (by omega) (by omega) ?_
  exact hN _ _ _ _ _ _ h hw hl
def wp_L_law_1330 (xs : Nat → Int32) (i : Nat) (N : XV → MV → OV → Prop) (vX : XV) (vM : MV) (vO : OV) : Prop := wp_X6_fitting vX  (fun (r_287 : UInt64) (vX_286 : XV) => wp_X7_fitting vM  (fun (r_289 : UInt64) (vM_288 : MV) => ((Op.cmpValue (FP.dcmp r_287 r_289) .l) = 0 → wp_L_law_1368 xs i N vX_286 vM_288 vO) ∧ (¬ (Op.cmpValue (FP.dcmp r_287 r_289) .l) = 0 → ((Op.cmpValue (FP.dcmp r_287 r_287) .l) = 0 → False) ∧ (¬ (Op.cmpValue (FP.dcmp r_287 r_287) .l) = 0 → (¬ (Op.cmpValue (FP.dcmp r_289 r_289) .l) = 0 → wp_L_law_1368 xs i N vX_286 vM_288 vO) ∧ ((Op.cmpValue (FP.dcmp r_289 r_289) .l) = 0 → False)))))
set_option maxHeartbeats 4000000 in
set_option maxRecDepth 100000 in
theorem k_L_law_1330 {p : Program} {l : Launch} {e : Env} {s : State} {m : MethodId} {below : List Frame} {meth : Method} {c : Code} {args : Array Value} {D : va_G} {t : T3} {A : Nat → Prop} {Z : State → Prop} {b L i : Nat} {xs : Nat → Int32} (X : Cx p s m meth c args cL_law 9 (some .boolean) RL wsL_law D t A) (hfl : l.stackTraces = false) (hL : L ≤ 2048) (hi : i + 4 ≤ L) (hX : va_X b L xs s s.heap) (hbl : b < s.heap.size) (hbA : ¬ A b) (aX : XA) (aM : MA) (aO : Nat) {N : XV → MV → OV → Prop} (hN : ∀ (vX : XV) (vM : MV) (vO : OV) (H : Heap) (locs : List Loc) (ls : Array Slot), N vX vM vO → Wd D A s.heap (xW t aX vX ++ (mW t aM vM ++ (oW t aO vO))) H locs → lv_has ls 9 [(0, .ref b), (1, .ref (XA.o aX)), (2, .ref (MA.o aM)), (3, .ref aO), (4, .int (nI i))] → W p l e room_1 s m args below meth c H locs (100 + i + 4) (3000 + 6 * i + 24) Z (F0 m 1385 ls [])) : ∀ (vX : XV) (vM : MV) (vO : OV) (H : Heap) (locs : List Loc) (ls : Array Slot), wp_L_law_1330 xs i N vX vM vO → Wd D A s.heap (xW t aX vX ++ (mW t aM vM ++ (oW t aO vO))) H locs → lv_has ls 9 [(0, .ref b), (1, .ref (XA.o aX)), (2, .ref (MA.o aM)), (3, .ref aO), (4, .int (nI i))] → W p l e room_1 s m args below meth c H locs (100 + i) (3000 + 6 * i) Z (F0 m 1330 ls []) := by
  intro vX vM vO H locs ls h hw hl
  have hx := X.1.1
  have hb := X.1.2.1
  refine lv_aload_n hx hb dL_law_1330 rfl (lv_at hl 1 rfl) ?_
  refine r_cd X hw (pm_l pm_0) (wn := fun (u : XV) => (xW t aX u ++ (mW t aM vM ++ (oW t aO vO)))) (fun u => (pm_l pm_0).symm) (r_runV X hw (c_X6_fitting l D t aX vX _ h) (pm_l pm_0) (cwV 0 X.1.2.2.2.2 gL_law_X6_fitting rfl rfl rfl (by decide +kernel) ⟨Nat.le_of_ble_eq_true rfl, Nat.le_of_ble_eq_true rfl⟩) (ci := 6) rfl rfl rfl rfl hl rfl (Nat.le_of_ble_eq_true rfl) dL_law_1331 ⟨by show 100 + i + 0 + 0 ≤ 601024; omega, by show 3000 + 6 * i + 0 + 0 ≤ 7293034; omega⟩) (fun r_287 u H locs h hw => ?_)
  obtain ⟨vX_286, rfl⟩ : ∃ z, z = u := ⟨_, rfl⟩
  refine lv_dstore (lv' := [(5, .double r_287), (0, .ref b), (1, .ref (XA.o aX)), (2, .ref (MA.o aM)), (3, .ref aO), (4, .int (nI i))]) hx hb dL_law_1334 hl (by decide) rfl (fun ls hl => ?_)
  refine lv_aload_n hx hb dL_law_1336 rfl (lv_at hl 3 rfl) ?_
  refine r_cd X hw (pm_r (pm_l pm_0)) (wn := fun (u : MV) => (xW t aX vX_286 ++ (mW t aM u ++ (oW t aO vO)))) (fun u => (pm_r (pm_l pm_0)).symm) (r_runV X hw (c_X7_fitting l D t aM vM _ h) (pm_r (pm_l pm_0)) (cwV 0 X.1.2.2.2.2 gL_law_X7_fitting rfl rfl rfl (by decide +kernel) ⟨Nat.le_of_ble_eq_true rfl, Nat.le_of_ble_eq_true rfl⟩) (ci := 7) rfl rfl rfl rfl hl rfl (Nat.le_of_ble_eq_true rfl) dL_law_1337 ⟨by show 100 + i + 0 + 0 ≤ 601024; omega, by show 3000 + 6 * i + 0 + 0 ≤ 7293034; omega⟩) (fun r_289 u H locs h hw => ?_)
  obtain ⟨vM_288, rfl⟩ : ∃ z, z = u := ⟨_, rfl⟩
  refine lv_dstore (lv' := [(7, .double r_289), (5, .double r_287), (0, .ref b), (1, .ref (XA.o aX)), (2, .ref (MA.o aM)), (3, .ref aO), (4, .int (nI i))]) hx hb dL_law_1340 hl (by decide) rfl (fun ls hl => ?_)
  refine lv_dload hx hb dL_law_1342 (lv_at hl 1 rfl) ?_
  refine lv_dload hx hb dL_law_1344 (lv_at hl 0 rfl) ?_
  refine lv_dcmp hx hb dL_law_1346 ?_
  refine lv_if_eq (tgt := 1368) hx hb dL_law_1347 (by decide) (fun c_292 => ?_) (fun c_292 => ?_)
  · replace h := h.1 c_292
    exact k_L_law_1368 X hfl hL hi hX hbl hbA aX aM aO hN _ _ _ _ _ _ h hw (lv_sub hl [2, 3, 4, 5, 6] rfl)
  replace h := h.2 c_292
  refine lv_dload hx hb dL_law_1350 (lv_at hl 1 rfl) ?_
  refine lv_dload hx hb dL_law_1352 (lv_at hl 1 rfl) ?_
  refine lv_dcmp hx hb dL_law_1354 ?_
  refine lv_if_eq (tgt := 1366) hx hb dL_law_1355 (by decide) (fun c_291 => ?_) (fun c_291 => ?_)
  · replace h := h.1 c_291
    refine lv_iconst (v := 0) hx hb dL_law_1366 (by decide) ?_
    exact absurd h id
  replace h := h.2 c_291
  refine lv_dload hx hb dL_law_1358 (lv_at hl 0 rfl) ?_
  refine lv_dload hx hb dL_law_1360 (lv_at hl 0 rfl) ?_
  refine lv_dcmp hx hb dL_law_1362 ?_
  refine lv_if_ne (tgt := 1368) hx hb dL_law_1363 (by decide) (fun c_290 => ?_) (fun c_290 => ?_)
  · replace h := h.1 c_290
    exact k_L_law_1368 X hfl hL hi hX hbl hbA aX aM aO hN _ _ _ _ _ _ h hw (lv_sub hl [2, 3, 4, 5, 6] rfl)
  replace h := h.2 c_290
  refine lv_iconst (v := 0) hx hb dL_law_1366 (by decide) ?_
  exact absurd h id
def wp_L_law_1371 (xs : Nat → Int32) (i : Nat) (N : XV → MV → OV → Prop) (vX : XV) (vM : MV) (vO : OV) : Prop := wp_X6_digest vX  (fun (r_295 : Int64) (vX_294 : XV) => wp_X7_digest vM  (fun (r_297 : Int64) (vM_296 : MV) => ((lg_cmp r_295 r_297) = 0 → N vX_294 vM_296 vO) ∧ (¬ (lg_cmp r_295 r_297) = 0 → False)))
set_option maxHeartbeats 4000000 in
set_option maxRecDepth 100000 in
theorem k_L_law_1371 {p : Program} {l : Launch} {e : Env} {s : State} {m : MethodId} {below : List Frame} {meth : Method} {c : Code} {args : Array Value} {D : va_G} {t : T3} {A : Nat → Prop} {Z : State → Prop} {b L i : Nat} {xs : Nat → Int32} (X : Cx p s m meth c args cL_law 9 (some .boolean) RL wsL_law D t A) (hfl : l.stackTraces = false) (hL : L ≤ 2048) (hi : i + 4 ≤ L) (hX : va_X b L xs s s.heap) (hbl : b < s.heap.size) (hbA : ¬ A b) (aX : XA) (aM : MA) (aO : Nat) {N : XV → MV → OV → Prop} (hN : ∀ (vX : XV) (vM : MV) (vO : OV) (H : Heap) (locs : List Loc) (ls : Array Slot), N vX vM vO → Wd D A s.heap (xW t aX vX ++ (mW t aM vM ++ (oW t aO vO))) H locs → lv_has ls 9 [(0, .ref b), (1, .ref (XA.o aX)), (2, .ref (MA.o aM)), (3, .ref aO), (4, .int (nI i))] → W p l e room_1 s m args below meth c H locs (100 + i + 4) (3000 + 6 * i + 24) Z (F0 m 1385 ls [])) : ∀ (vX : XV) (vM : MV) (vO : OV) (H : Heap) (locs : List Loc) (ls : Array Slot), wp_L_law_1371 xs i N vX vM vO → Wd D A s.heap (xW t aX vX ++ (mW t aM vM ++ (oW t aO vO))) H locs → lv_has ls 9 [(0, .ref b), (1, .ref (XA.o aX)), (2, .ref (MA.o aM)), (3, .ref aO), (4, .int (nI i))] → W p l e room_1 s m args below meth c H locs (100 + i) (3000 + 6 * i) Z (F0 m 1371 ls []) := by
  intro vX vM vO H locs ls h hw hl
  have hx := X.1.1
  have hb := X.1.2.1
  refine lv_aload_n hx hb dL_law_1371 rfl (lv_at hl 1 rfl) ?_
  refine r_cl X hw (pm_l pm_0) (wn := fun (u : XV) => (xW t aX u ++ (mW t aM vM ++ (oW t aO vO)))) (fun u => (pm_l pm_0).symm) (r_runV X hw (c_X6_digest l D t aX vX _ h) (pm_l pm_0) (cwV 0 X.1.2.2.2.2 gL_law_X6_digest rfl rfl rfl (by decide +kernel) ⟨Nat.le_of_ble_eq_true rfl, Nat.le_of_ble_eq_true rfl⟩) (ci := 6) rfl rfl rfl rfl hl rfl (Nat.le_of_ble_eq_true rfl) dL_law_1372 ⟨by show 100 + i + 0 + 0 ≤ 601024; omega, by show 3000 + 6 * i + 0 + 0 ≤ 7293034; omega⟩) (fun r_295 u H locs h hw => ?_)
  obtain ⟨vX_294, rfl⟩ : ∃ z, z = u := ⟨_, rfl⟩
  refine lv_aload_n hx hb dL_law_1375 rfl (lv_at hl 2 rfl) ?_
  refine r_cl X hw (pm_r (pm_l pm_0)) (wn := fun (u : MV) => (xW t aX vX_294 ++ (mW t aM u ++ (oW t aO vO)))) (fun u => (pm_r (pm_l pm_0)).symm) (r_runV X hw (c_X7_digest l D t aM vM _ h) (pm_r (pm_l pm_0)) (cwV 0 X.1.2.2.2.2 gL_law_X7_digest rfl rfl rfl (by decide +kernel) ⟨Nat.le_of_ble_eq_true rfl, Nat.le_of_ble_eq_true rfl⟩) (ci := 7) rfl rfl rfl rfl hl rfl (Nat.le_of_ble_eq_true rfl) dL_law_1376 ⟨by show 100 + i + 0 + 0 ≤ 601024; omega, by show 3000 + 6 * i + 0 + 0 ≤ 7293034; omega⟩) (fun r_297 u H locs h hw => ?_)
  obtain ⟨vM_296, rfl⟩ : ∃ z, z = u := ⟨_, rfl⟩
  refine W.lcmp hx hb dL_law_1379 ?_
  refine lv_if_eq (tgt := 1385) hx hb dL_law_1380 (by decide) (fun c_298 => ?_) (fun c_298 => ?_)
  · replace h := h.1 c_298
    refine W.widen (k := 100 + i + 4) (n := 3000 + 6 * i + 24) (by omega) (by omega) ?_
    exact hN _ _ _ _ _ _ h hw hl
  replace h := h.2 c_298
  refine lv_iconst (v := 0) hx hb dL_law_1383 (by decide) ?_
  exact absurd h id
def wp_L_law_32 (xs : Nat → Int32) (i : Nat) (N : XV → MV → OV → Prop) (vX : XV) (vM : MV) (vO : OV) : Prop := ∀ sw_1 : Int32, sw_1 = ((xs i) &&& 31) → (sw_1 = 0 → wp_L_law_156 xs i N vX vM vO) ∧ (sw_1 = 1 → wp_L_law_224 xs i N vX vM vO) ∧ (sw_1 = 2 → wp_L_law_292 xs i N vX vM vO) ∧ (sw_1 = 3 → wp_L_law_336 xs i N vX vM vO) ∧ (sw_1 = 4 → wp_L_law_392 xs i N vX vM vO) ∧ (sw_1 = 5 → wp_L_law_460 xs i N vX vM vO) ∧ (sw_1 = 6 → wp_L_law_528 xs i N vX vM vO) ∧ (sw_1 = 7 → wp_L_law_584 xs i N vX vM vO) ∧ (sw_1 = 8 → wp_L_law_640 xs i N vX vM vO) ∧ (sw_1 = 9 → wp_L_law_653 xs i N vX vM vO) ∧ (sw_1 = 10 → wp_L_law_666 xs i N vX vM vO) ∧ (sw_1 = 11 → wp_L_law_710 xs i N vX vM vO) ∧ (sw_1 = 12 → wp_L_law_766 xs i N vX vM vO) ∧ (sw_1 = 13 → wp_L_law_779 xs i N vX vM vO) ∧ (sw_1 = 14 → wp_L_law_792 xs i N vX vM vO) ∧ (sw_1 = 15 → wp_L_law_836 xs i N vX vM vO) ∧ (sw_1 = 16 → wp_L_law_880 xs i N vX vM vO) ∧ (sw_1 = 17 → wp_L_law_948 xs i N vX vM vO) ∧ (sw_1 = 18 → wp_L_law_1044 xs i N vX vM vO) ∧ (sw_1 = 19 → wp_L_law_1112 xs i N vX vM vO) ∧ (sw_1 = 20 → wp_L_law_1168 xs i N vX vM vO) ∧ (sw_1 = 21 → wp_L_law_1236 xs i N vX vM vO) ∧ (sw_1 = 22 → wp_L_law_1249 xs i N vX vM vO) ∧ (sw_1 = 23 → wp_L_law_1262 xs i N vX vM vO) ∧ (sw_1 = 24 → wp_L_law_1330 xs i N vX vM vO) ∧ (sw_1 = 25 → wp_L_law_1371 xs i N vX vM vO) ∧ (¬ sw_1 = 0 → ¬ sw_1 = 1 → ¬ sw_1 = 2 → ¬ sw_1 = 3 → ¬ sw_1 = 4 → ¬ sw_1 = 5 → ¬ sw_1 = 6 → ¬ sw_1 = 7 → ¬ sw_1 = 8 → ¬ sw_1 = 9 → ¬ sw_1 = 10 → ¬ sw_1 = 11 → ¬ sw_1 = 12 → ¬ sw_1 = 13 → ¬ sw_1 = 14 → ¬ sw_1 = 15 → ¬ sw_1 = 16 → ¬ sw_1 = 17 → ¬ sw_1 = 18 → ¬ sw_1 = 19 → ¬ sw_1 = 20 → ¬ sw_1 = 21 → ¬ sw_1 = 22 → ¬ sw_1 = 23 → ¬ sw_1 = 24 → ¬ sw_1 = 25 → N vX vM vO)
set_option maxHeartbeats 4000000 in
set_option maxRecDepth 100000 in
theorem k_L_law_32 {p : Program} {l : Launch} {e : Env} {s : State} {m : MethodId} {below : List Frame} {meth : Method} {c : Code} {args : Array Value} {D : va_G} {t : T3} {A : Nat → Prop} {Z : State → Prop} {b L i : Nat} {xs : Nat → Int32} (X : Cx p s m meth c args cL_law 9 (some .boolean) RL wsL_law D t A) (hfl : l.stackTraces = false) (hL : L ≤ 2048) (hi : i + 4 ≤ L) (hX : va_X b L xs s s.heap) (hbl : b < s.heap.size) (hbA : ¬ A b) (aX : XA) (aM : MA) (aO : Nat) {N : XV → MV → OV → Prop} (hN : ∀ (vX : XV) (vM : MV) (vO : OV) (H : Heap) (locs : List Loc) (ls : Array Slot), N vX vM vO → Wd D A s.heap (xW t aX vX ++ (mW t aM vM ++ (oW t aO vO))) H locs → lv_has ls 9 [(0, .ref b), (1, .ref (XA.o aX)), (2, .ref (MA.o aM)), (3, .ref aO), (4, .int (nI i))] → W p l e room_1 s m args below meth c H locs (100 + i + 4) (3000 + 6 * i + 24) Z (F0 m 1385 ls [])) : ∀ (vX : XV) (vM : MV) (vO : OV) (H : Heap) (locs : List Loc) (ls : Array Slot), wp_L_law_32 xs i N vX vM vO → Wd D A s.heap (xW t aX vX ++ (mW t aM vM ++ (oW t aO vO))) H locs → lv_has ls 9 [(0, .ref b), (1, .ref (XA.o aX)), (2, .ref (MA.o aM)), (3, .ref aO), (4, .int (nI i))] → W p l e room_1 s m args below meth c H locs (100 + i) (3000 + 6 * i) Z (F0 m 32 ls []) := by
  intro vX vM vO H locs ls h hw hl
  have hx := X.1.1
  have hb := X.1.2.1
  refine lv_aload_n hx hb dL_law_32 rfl (lv_at hl 0 rfl) ?_
  refine lv_iload hx hb dL_law_33 (lv_at hl 4 rfl) ?_
  refine r_sld X hw hX hbl hbA hL (j := i) (by omega) dL_law_35 ?_
  refine lv_bipush (v := 31) hx hb dL_law_36 (by decide) ?_
  refine lv_iand hx hb dL_law_38 ?_
  refine lv_topi (fun sw_1 esw_1 => ?_)
  replace h := h sw_1 esw_1
  by_cases c_16 : sw_1 = 0
  · replace h := h.1 c_16
    refine lv_tableIn (off := 117) (tgt := 156) hx hb dL_law_39 (by rw [c_16]; decide) (by rw [c_16]; decide) (by rw [c_16]; rfl) (by decide) ?_
    exact k_L_law_156 X hfl hL hi hX hbl hbA aX aM aO hN _ _ _ _ _ _ h hw hl
  by_cases c_31 : sw_1 = 1
  · replace h := h.2.1 c_31
    refine lv_tableIn (off := 185) (tgt := 224) hx hb dL_law_39 (by rw [c_31]; decide) (by rw [c_31]; decide) (by rw [c_31]; rfl) (by decide) ?_
    exact k_L_law_224 X hfl hL hi hX hbl hbA aX aM aO hN _ _ _ _ _ _ h hw hl
  by_cases c_42 : sw_1 = 2
  · replace h := h.2.2.1 c_42
    refine lv_tableIn (off := 253) (tgt := 292) hx hb dL_law_39 (by rw [c_42]; decide) (by rw [c_42]; decide) (by rw [c_42]; rfl) (by decide) ?_
    exact k_L_law_292 X hfl hL hi hX hbl hbA aX aM aO hN _ _ _ _ _ _ h hw hl
  by_cases c_55 : sw_1 = 3
  · replace h := h.2.2.2.1 c_55
    refine lv_tableIn (off := 297) (tgt := 336) hx hb dL_law_39 (by rw [c_55]; decide) (by rw [c_55]; decide) (by rw [c_55]; rfl) (by decide) ?_
    exact k_L_law_336 X hfl hL hi hX hbl hbA aX aM aO hN _ _ _ _ _ _ h hw hl
  by_cases c_70 : sw_1 = 4
  · replace h := h.2.2.2.2.1 c_70
    refine lv_tableIn (off := 353) (tgt := 392) hx hb dL_law_39 (by rw [c_70]; decide) (by rw [c_70]; decide) (by rw [c_70]; rfl) (by decide) ?_
    exact k_L_law_392 X hfl hL hi hX hbl hbA aX aM aO hN _ _ _ _ _ _ h hw hl
  by_cases c_85 : sw_1 = 5
  · replace h := h.2.2.2.2.2.1 c_85
    refine lv_tableIn (off := 421) (tgt := 460) hx hb dL_law_39 (by rw [c_85]; decide) (by rw [c_85]; decide) (by rw [c_85]; rfl) (by decide) ?_
    exact k_L_law_460 X hfl hL hi hX hbl hbA aX aM aO hN _ _ _ _ _ _ h hw hl
  by_cases c_98 : sw_1 = 6
  · replace h := h.2.2.2.2.2.2.1 c_98
    refine lv_tableIn (off := 489) (tgt := 528) hx hb dL_law_39 (by rw [c_98]; decide) (by rw [c_98]; decide) (by rw [c_98]; rfl) (by decide) ?_
    exact k_L_law_528 X hfl hL hi hX hbl hbA aX aM aO hN _ _ _ _ _ _ h hw hl
  by_cases c_111 : sw_1 = 7
  · replace h := h.2.2.2.2.2.2.2.1 c_111
    refine lv_tableIn (off := 545) (tgt := 584) hx hb dL_law_39 (by rw [c_111]; decide) (by rw [c_111]; decide) (by rw [c_111]; rfl) (by decide) ?_
    exact k_L_law_584 X hfl hL hi hX hbl hbA aX aM aO hN _ _ _ _ _ _ h hw hl
  by_cases c_117 : sw_1 = 8
  · replace h := h.2.2.2.2.2.2.2.2.1 c_117
    refine lv_tableIn (off := 601) (tgt := 640) hx hb dL_law_39 (by rw [c_117]; decide) (by rw [c_117]; decide) (by rw [c_117]; rfl) (by decide) ?_
    exact k_L_law_640 X hfl hL hi hX hbl hbA aX aM aO hN _ _ _ _ _ _ h hw hl
  by_cases c_123 : sw_1 = 9
  · replace h := h.2.2.2.2.2.2.2.2.2.1 c_123
    refine lv_tableIn (off := 614) (tgt := 653) hx hb dL_law_39 (by rw [c_123]; decide) (by rw [c_123]; decide) (by rw [c_123]; rfl) (by decide) ?_
    exact k_L_law_653 X hfl hL hi hX hbl hbA aX aM aO hN _ _ _ _ _ _ h hw hl
  by_cases c_134 : sw_1 = 10
  · replace h := h.2.2.2.2.2.2.2.2.2.2.1 c_134
    refine lv_tableIn (off := 627) (tgt := 666) hx hb dL_law_39 (by rw [c_134]; decide) (by rw [c_134]; decide) (by rw [c_134]; rfl) (by decide) ?_
    exact k_L_law_666 X hfl hL hi hX hbl hbA aX aM aO hN _ _ _ _ _ _ h hw hl
  by_cases c_147 : sw_1 = 11
  · replace h := h.2.2.2.2.2.2.2.2.2.2.2.1 c_147
    refine lv_tableIn (off := 671) (tgt := 710) hx hb dL_law_39 (by rw [c_147]; decide) (by rw [c_147]; decide) (by rw [c_147]; rfl) (by decide) ?_
    exact k_L_law_710 X hfl hL hi hX hbl hbA aX aM aO hN _ _ _ _ _ _ h hw hl
  by_cases c_153 : sw_1 = 12
  · replace h := h.2.2.2.2.2.2.2.2.2.2.2.2.1 c_153
    refine lv_tableIn (off := 727) (tgt := 766) hx hb dL_law_39 (by rw [c_153]; decide) (by rw [c_153]; decide) (by rw [c_153]; rfl) (by decide) ?_
    exact k_L_law_766 X hfl hL hi hX hbl hbA aX aM aO hN _ _ _ _ _ _ h hw hl
  by_cases c_159 : sw_1 = 13
  · replace h := h.2.2.2.2.2.2.2.2.2.2.2.2.2.1 c_159
    refine lv_tableIn (off := 740) (tgt := 779) hx hb dL_law_39 (by rw [c_159]; decide) (by rw [c_159]; decide) (by rw [c_159]; rfl) (by decide) ?_
    exact k_L_law_779 X hfl hL hi hX hbl hbA aX aM aO hN _ _ _ _ _ _ h hw hl
  by_cases c_170 : sw_1 = 14
  · replace h := h.2.2.2.2.2.2.2.2.2.2.2.2.2.2.1 c_170
    refine lv_tableIn (off := 753) (tgt := 792) hx hb dL_law_39 (by rw [c_170]; decide) (by rw [c_170]; decide) (by rw [c_170]; rfl) (by decide) ?_
    exact k_L_law_792 X hfl hL hi hX hbl hbA aX aM aO hN _ _ _ _ _ _ h hw hl
  by_cases c_181 : sw_1 = 15
  · replace h := h.2.2.2.2.2.2.2.2.2.2.2.2.2.2.2.1 c_181
    refine lv_tableIn (off := 797) (tgt := 836) hx hb dL_law_39 (by rw [c_181]; decide) (by rw [c_181]; decide) (by rw [c_181]; rfl) (by decide) ?_
    exact k_L_law_836 X hfl hL hi hX hbl hbA aX aM aO hN _ _ _ _ _ _ h hw hl
  by_cases c_196 : sw_1 = 16
  · replace h := h.2.2.2.2.2.2.2.2.2.2.2.2.2.2.2.2.1 c_196
    refine lv_tableIn (off := 841) (tgt := 880) hx hb dL_law_39 (by rw [c_196]; decide) (by rw [c_196]; decide) (by rw [c_196]; rfl) (by decide) ?_
    exact k_L_law_880 X hfl hL hi hX hbl hbA aX aM aO hN _ _ _ _ _ _ h hw hl
  by_cases c_215 : sw_1 = 17
  · replace h := h.2.2.2.2.2.2.2.2.2.2.2.2.2.2.2.2.2.1 c_215
    refine lv_tableIn (off := 909) (tgt := 948) hx hb dL_law_39 (by rw [c_215]; decide) (by rw [c_215]; decide) (by rw [c_215]; rfl) (by decide) ?_
    exact k_L_law_948 X hfl hL hi hX hbl hbA aX aM aO hN _ _ _ _ _ _ h hw hl
  by_cases c_230 : sw_1 = 18
  · replace h := h.2.2.2.2.2.2.2.2.2.2.2.2.2.2.2.2.2.2.1 c_230
    refine lv_tableIn (off := 1005) (tgt := 1044) hx hb dL_law_39 (by rw [c_230]; decide) (by rw [c_230]; decide) (by rw [c_230]; rfl) (by decide) ?_
    exact k_L_law_1044 X hfl hL hi hX hbl hbA aX aM aO hN _ _ _ _ _ _ h hw hl
  by_cases c_243 : sw_1 = 19
  · replace h := h.2.2.2.2.2.2.2.2.2.2.2.2.2.2.2.2.2.2.2.1 c_243
    refine lv_tableIn (off := 1073) (tgt := 1112) hx hb dL_law_39 (by rw [c_243]; decide) (by rw [c_243]; decide) (by rw [c_243]; rfl) (by decide) ?_
    exact k_L_law_1112 X hfl hL hi hX hbl hbA aX aM aO hN _ _ _ _ _ _ h hw hl
  by_cases c_258 : sw_1 = 20
  · replace h := h.2.2.2.2.2.2.2.2.2.2.2.2.2.2.2.2.2.2.2.2.1 c_258
    refine lv_tableIn (off := 1129) (tgt := 1168) hx hb dL_law_39 (by rw [c_258]; decide) (by rw [c_258]; decide) (by rw [c_258]; rfl) (by decide) ?_
    exact k_L_law_1168 X hfl hL hi hX hbl hbA aX aM aO hN _ _ _ _ _ _ h hw hl
  by_cases c_264 : sw_1 = 21
  · replace h := h.2.2.2.2.2.2.2.2.2.2.2.2.2.2.2.2.2.2.2.2.2.1 c_264
    refine lv_tableIn (off := 1197) (tgt := 1236) hx hb dL_law_39 (by rw [c_264]; decide) (by rw [c_264]; decide) (by rw [c_264]; rfl) (by decide) ?_
    exact k_L_law_1236 X hfl hL hi hX hbl hbA aX aM aO hN _ _ _ _ _ _ h hw hl
  by_cases c_270 : sw_1 = 22
  · replace h := h.2.2.2.2.2.2.2.2.2.2.2.2.2.2.2.2.2.2.2.2.2.2.1 c_270
    refine lv_tableIn (off := 1210) (tgt := 1249) hx hb dL_law_39 (by rw [c_270]; decide) (by rw [c_270]; decide) (by rw [c_270]; rfl) (by decide) ?_
    exact k_L_law_1249 X hfl hL hi hX hbl hbA aX aM aO hN _ _ _ _ _ _ h hw hl
  by_cases c_285 : sw_1 = 23
  · replace h := h.2.2.2.2.2.2.2.2.2.2.2.2.2.2.2.2.2.2.2.2.2.2.2.1 c_285
    refine lv_tableIn (off := 1223) (tgt := 1262) hx hb dL_law_39 (by rw [c_285]; decide) (by rw [c_285]; decide) (by rw [c_285]; rfl) (by decide) ?_
    exact k_L_law_1262 X hfl hL hi hX hbl hbA aX aM aO hN _ _ _ _ _ _ h hw hl
  by_cases c_293 : sw_1 = 24
  · replace h := h.2.2.2.2.2.2.2.2.2.2.2.2.2.2.2.2.2.2.2.2.2.2.2.2.1 c_293
    refine lv_tableIn (off := 1291) (tgt := 1330) hx hb dL_law_39 (by rw [c_293]; decide) (by rw [c_293]; decide) (by rw [c_293]; rfl) (by decide) ?_
    exact k_L_law_1330 X hfl hL hi hX hbl hbA aX aM aO hN _ _ _ _ _ _ h hw hl
  by_cases c_299 : sw_1 = 25
  · replace h := h.2.2.2.2.2.2.2.2.2.2.2.2.2.2.2.2.2.2.2.2.2.2.2.2.2.1 c_299
    refine lv_tableIn (off := 1332) (tgt := 1371) hx hb dL_law_39 (by rw [c_299]; decide) (by rw [c_299]; decide) (by rw [c_299]; rfl) (by decide) ?_
    exact k_L_law_1371 X hfl hL hi hX hbl hbA aX aM aO hN _ _ _ _ _ _ h hw hl
  replace h := h.2.2.2.2.2.2.2.2.2.2.2.2.2.2.2.2.2.2.2.2.2.2.2.2.2.2 c_16 c_31 c_42 c_55 c_70 c_85 c_98 c_111 c_117 c_123 c_134 c_147 c_153 c_159 c_170 c_181 c_196 c_215 c_230 c_243 c_258 c_264 c_270 c_285 c_293 c_299
  refine lv_tableOut (tgt := 1385) hx hb dL_law_39 (tab_outL 25 (fun k hk => match k, hk with | 0, _ => c_16 | 1, _ => c_31 | 2, _ => c_42 | 3, _ => c_55 | 4, _ => c_70 | 5, _ => c_85 | 6, _ => c_98 | 7, _ => c_111 | 8, _ => c_117 | 9, _ => c_123 | 10, _ => c_134 | 11, _ => c_147 | 12, _ => c_153 | 13, _ => c_159 | 14, _ => c_170 | 15, _ => c_181 | 16, _ => c_196 | 17, _ => c_215 | 18, _ => c_230 | 19, _ => c_243 | 20, _ => c_258 | 21, _ => c_264 | 22, _ => c_270 | 23, _ => c_285 | 24, _ => c_293 | 25, _ => c_299 | (z + 26), hk => absurd hk (by omega))) (by decide) ?_
  refine W.widen (k := 100 + i + 4) (n := 3000 + 6 * i + 24) (by omega) (by omega) ?_
  exact hN _ _ _ _ _ _ h hw hl
