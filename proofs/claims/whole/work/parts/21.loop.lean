/-! the law's loop -/
theorem lh_out {L i : Nat} (hL : L ≤ 2048) (hi : i ≤ 2052) (c : ¬ nI L - 4 < nI i) : i + 4 ≤ L := by
  rcases Nat.lt_or_ge L (i + 4) with q | q
  · exfalso
    apply c
    rw [Int32.lt_iff_toInt_lt]
    show (nI L - nI 4).toInt < (nI i).toInt
    rw [pk_sub_toInt (by omega) (by omega), nI_toInt (by omega)]
    omega
  · exact q
section LP
variable {p : Program} {l : Launch} {e : Env} {s : State} {m : MethodId} {below : List Frame} {meth : Method} {c : Code} {D : va_G} {t : T3} {A : Nat → Prop} {b L : Nat} {xs : Nat → Int32}
set_option maxHeartbeats 4000000 in
set_option maxRecDepth 100000 in
theorem k_L_law_23 (X : Cx p s m meth c #[Value.ref b] cL_law 9 (some .boolean) RL wsL_law D t A) (hfl : l.stackTraces = false) (hL : L ≤ 2048) (hX : va_X b L xs s s.heap) (hbl : b < s.heap.size) (hbA : ¬ A b) (hAr : ∀ q : Nat, A q → s.heap.size ≤ q) (aX : XA) (aM : MA) (aO : Nat) (Inv : XV → MV → OV → Prop)
    (step : ∀ (i : Nat) (vX : XV) (vM : MV) (vO : OV), i + 4 ≤ L → Inv vX vM vO → wp_L_law_32 xs i Inv vX vM vO) (i : Nat) (hi : i ≤ 2052)
    (next : i + 4 ≤ L → ∀ (vX : XV) (vM : MV) (vO : OV) (H : Heap) (locs : List Loc) (ls : Array Slot), Inv vX vM vO → Wd D A s.heap (xW t aX vX ++ (mW t aM vM ++ (oW t aO vO))) H locs → lv_has ls 9 [(0, .ref b), (1, .ref (XA.o aX)), (2, .ref (MA.o aM)), (3, .ref aO), (4, .int (nI (i + 4)))] → W p l e room_1 s m #[Value.ref b] below meth c H locs (100 + (i + 4)) (3000 + 6 * (i + 4)) (lw_Z below #[Value.ref b] s) (F0 m 23 ls [])) :
    ∀ (vX : XV) (vM : MV) (vO : OV) (H : Heap) (locs : List Loc) (ls : Array Slot), Inv vX vM vO → Wd D A s.heap (xW t aX vX ++ (mW t aM vM ++ (oW t aO vO))) H locs → lv_has ls 9 [(0, .ref b), (1, .ref (XA.o aX)), (2, .ref (MA.o aM)), (3, .ref aO), (4, .int (nI i))] → W p l e room_1 s m #[Value.ref b] below meth c H locs (100 + i) (3000 + 6 * i) (lw_Z below #[Value.ref b] s) (F0 m 23 ls []) := by
  intro vX vM vO H locs ls h hw hl
  have hx := X.1.1
  have hb := X.1.2.1
  refine lv_iload hx hb dL_law_23 (lv_at hl 4 rfl) ?_
  refine lv_aload_n hx hb dL_law_25 rfl (lv_at hl 0 rfl) ?_
  refine r_slen X hw hX hbl hbA dL_law_26 ?_
  refine lv_iconst (v := 4) hx hb dL_law_27 (by decide) ?_
  refine lv_isub hx hb dL_law_28 ?_
  refine lv_icmp_gt (tgt := 1391) hx hb dL_law_29 (by decide) (fun c1 => ?_) (fun c1 => ?_)
  · refine lv_iconst (v := 1) hx hb dL_law_1391 (by decide) ?_
    refine va_forget (fun q hq => hAr _ (hw.2.2.2.2 q hq)) ?_
    refine W.widen (k := 601024) (n := 7293034) (by omega) (by omega) ?_
    refine W.base ?_
    exact lw_ret (Drawn.sameBut.refl s.drawn lw_cs) hx hb X.2.1 X.2.2.1 dL_law_1392
  · have hi4 : i + 4 ≤ L := lh_out hL hi c1
    refine k_L_law_32 X hfl hL hi4 hX hbl hbA aX aM aO (N := Inv) (fun vX vM vO H locs ls h hw hl => ?_) vX vM vO H locs ls (step i vX vM vO hi4 h) hw hl
    refine lv_iinc (v := nI (i + 4)) (lv' := [(4, .int (nI (i + 4))), (0, .ref b), (1, .ref (XA.o aX)), (2, .ref (MA.o aM)), (3, .ref aO)]) hx hb dL_law_1385 hl (k := 4) rfl (nI_p4 i) (by decide) rfl (fun ls hl => ?_)
    refine lv_goto (tgt := 23) hx hb dL_law_1388 (by decide) ?_
    refine W.widen (k := 100 + (i + 4)) (n := 3000 + 6 * (i + 4)) (by omega) (by omega) ?_
    exact next hi4 vX vM vO H locs ls h hw (lv_sub hl [1, 2, 3, 4, 0] rfl)
theorem k_L_law_loop (X : Cx p s m meth c #[Value.ref b] cL_law 9 (some .boolean) RL wsL_law D t A) (hfl : l.stackTraces = false) (hL : L ≤ 2048) (hX : va_X b L xs s s.heap) (hbl : b < s.heap.size) (hbA : ¬ A b) (hAr : ∀ q : Nat, A q → s.heap.size ≤ q) (aX : XA) (aM : MA) (aO : Nat) (Inv : XV → MV → OV → Prop)
    (step : ∀ (i : Nat) (vX : XV) (vM : MV) (vO : OV), i + 4 ≤ L → Inv vX vM vO → wp_L_law_32 xs i Inv vX vM vO) : ∀ (k i : Nat), L ≤ i + k → i ≤ 2052 → ∀ (vX : XV) (vM : MV) (vO : OV) (H : Heap) (locs : List Loc) (ls : Array Slot), Inv vX vM vO → Wd D A s.heap (xW t aX vX ++ (mW t aM vM ++ (oW t aO vO))) H locs → lv_has ls 9 [(0, .ref b), (1, .ref (XA.o aX)), (2, .ref (MA.o aM)), (3, .ref aO), (4, .int (nI i))] → W p l e room_1 s m #[Value.ref b] below meth c H locs (100 + i) (3000 + 6 * i) (lw_Z below #[Value.ref b] s) (F0 m 23 ls []) := by
  intro k
  induction k with
  | zero => exact fun i hk hi => k_L_law_23 X hfl hL hX hbl hbA hAr aX aM aO Inv step i hi (fun h4 => absurd h4 (by omega))
  | succ k ih => exact fun i hk hi => k_L_law_23 X hfl hL hX hbl hbA hAr aX aM aO Inv step i hi (fun h4 => ih (i + 4) (by omega) (by omega))
end LP
