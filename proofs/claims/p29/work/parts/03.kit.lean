/-! MY KIT: what a method's context is, worlds in one word, contracts that keep the addresses -/
abbrev T3 : Type := ClassId × ClassId × ClassId × ClassId
/-- the kinds of arrays: int, Board, Needs, long -/
abbrev tys (t : T3) : List (ClassId × FieldType) := [(t.1, .int), (t.2.1, .object "TwoFacedTiles$Board"), (t.2.2.1, .object "TwoFacedTiles$Needs")]
/-- the private members of a nest mate that are called -/
def nestP : List (String × Nat × MethodName × String) := [
  (RX6, 11, yX0_init, RX6), (RX6, 25, yX5_init, RX6), (RX6, 32, yX3_init, RX6), (RX6, 46, yX1_init, RX6),
  (RX0, 59, yX6_placingTurnedOver, RX6), (RX0, 63, yX6_lookOfFaces, RX6), (RX0, 70, yX6_turnedOver, RX6), (RX0, 73, yX6_turned, RX6), (RX0, 88, yX6_opposite, RX6), (RX0, 91, yX6_colorsAt, RX6),
  (RX2, 24, yX0_init, RX6), (RX3, 45, yX6_opposite, RX6), (RX3, 48, yX6_colorsAt, RX6), (RX4, 11, yX0_init, RX6), (RX4, 41, yX3_init, RX6)]
def KX (_ : State) : Prop := True
theorem KX.warm {s U : State} (_ : s.WarmedH U.vm) (_ : KX s) : KX U := trivial
theorem KX.same {s U : State} (_ : s.vm = U.vm) (_ : KX s) : KX U := trivial
def KN (D : va_G) (t : T3) (U : State) : Prop := va_K D vwCl (tys t) U ∧ (∀ q ∈ nestP, va_Nw (.methodLinkNest q.1 q.2.1 q.2.2.1 q.2.2.2) U) ∧ (va_AO RX0 U ∧ va_AO RX3 U) ∧ KX U
theorem KN.warm {D : va_G} {t : T3} {s U : State} (hW : s.WarmedH U.vm) (h : KN D t s) : KN D t U := ⟨va_K.moved hW.alike h.1, fun q hq => va_Nw.warmM hW (h.2.1 q hq), ⟨va_AO.moved hW.alike h.2.2.1.1, va_AO.moved hW.alike h.2.2.1.2⟩, h.2.2.2.warm hW⟩
theorem KN.same {D : va_G} {t : T3} {s U : State} (hv : s.vm = U.vm) (h : KN D t s) : KN D t U := ⟨va_K.moved (by rw [hv]; exact Vm.Alike.refl _) h.1, fun q hq => va_Nw.same rfl hv (h.2.1 q hq), ⟨va_AO.moved (by rw [hv]; exact Vm.Alike.refl _) h.2.2.1.1, va_AO.moved (by rw [hv]; exact Vm.Alike.refl _) h.2.2.1.2⟩, h.2.2.2.same hv⟩
def ZA (_ : Nat → Prop) (_ : State) (_ : Heap) : Prop := True
theorem ZA.to {A B : Nat → Prop} {s U : State} {H H1 : Heap} (_ : ZA A s H) (_ : ∀ a : Nat, a < H.size → ¬ A a → H1[a]? = H[a]?) (_ : s.vm.Alike U.vm) (_ : ∀ q, B q → A q) : ZA B U H1 := trivial
/-- a world: the heap holds the cells, they are apart, nothing else has changed since H0 -/
def Wd (D : va_G) (A : Nat → Prop) (H0 : Heap) (ws : va_W) (H : Heap) (locs : List Loc) : Prop := va_P D vwCl ws H ∧ va_D A ws ∧ va_S A H0 H locs
/-- a method's context -/
def Cx (p : Program) (s : State) (m : MethodId) (meth : Method) (c : Code) (args : Array Value) (cc : ByteArray) (nL : Nat) (ret : Option FieldType) (own : String) (Ts : List Cond) (D : va_G) (t : T3) (A : Nat → Prop) : Prop :=
  CallFix p m c cc nL s args Ts own ∧ meth.sig.returnType = ret ∧ meth.locks = false ∧ KN D t s ∧ (∀ q : Nat, s.heap.size ≤ q → A q) ∧ ZA A s s.heap
/-- what a contract of mine asks: the world, the tables -/
def Pc0 (As : List Value) (D : va_G) (t : T3) (w0 : va_W) (sz : Nat) : Array Value → State → Prop := va_Pc As (fun U => U.heap.size = sz ∧ va_P D vwCl w0 U.heap ∧ KN D t U ∧ va_D (fun _ => True) w0 ∧ ZA (va_A w0 sz) U U.heap)
/-- the world behind it -/
def B1 {S : Type} (D : va_G) (w1 : S → va_W) (A : Nat → Prop) : S → State → Prop := fun u T => va_P D vwCl (w1 u) T.heap ∧ va_D A (w1 u)
def Ct (l : Launch) (y : MethodName) (ws : List Cond) (fr lo mc ms : Nat) (As : List Value) (D : va_G) (t : T3) (w0 : va_W) (Qc : Nat → Array Value → State → Outcome → State → Prop) : Prop :=
  ∀ sz : Nat, Met l y ws ({ frames := fr, cells := mc, slots := ms, locals := lo }) (Pc0 As D t w0 sz) (Qc sz) mc ms (va_A w0 sz)
abbrev Qi {S : Type} (D : va_G) (w0 : va_W) (w1 : S → va_W) (post : Int32 → S → Prop) (sz : Nat) : Array Value → State → Outcome → State → Prop := va_Qi post (B1 D w1 (va_A w0 sz)) (va_A w0 sz)
abbrev Ql {S : Type} (D : va_G) (w0 : va_W) (w1 : S → va_W) (post : Int64 → S → Prop) (sz : Nat) : Array Value → State → Outcome → State → Prop := va_Ql post (B1 D w1 (va_A w0 sz)) (va_A w0 sz)
abbrev Qd {S : Type} (D : va_G) (w0 : va_W) (w1 : S → va_W) (post : UInt64 → S → Prop) (sz : Nat) : Array Value → State → Outcome → State → Prop := va_Qd post (B1 D w1 (va_A w0 sz)) (va_A w0 sz)
abbrev Qv {S : Type} (D : va_G) (w0 : va_W) (w1 : S → va_W) (post : S → Prop) (sz : Nat) : Array Value → State → Outcome → State → Prop := va_Qv post (B1 D w1 (va_A w0 sz)) (va_A w0 sz)
theorem Pc0.blind {As : List Value} {D : va_G} {t : T3} {w0 : va_W} {sz : Nat} : FrameBlind (Pc0 As D t w0 sz) := fun a U g mk q => ⟨q.1, q.2.1, q.2.2.1, KN.same (U := U.calling g mk a) rfl q.2.2.2.1, q.2.2.2.2.1, ZA.to (U := U.calling g mk a) q.2.2.2.2.2 (fun _ _ _ => rfl) (Vm.Alike.refl _) (fun _ h => h)⟩
/-- iushr -/
def ushr (x y : Int32) : Int32 := (x.toUInt32 >>> (y.toUInt32 &&& Int32.toUInt32 31)).toInt32
/-- what a boolean field or answer keeps -/
def isB (x : Int32) : Prop := x = 0 ∨ x = 1
theorem isB_0 : isB 0 := Or.inl rfl
theorem isB_1 : isB 1 := Or.inr rfl
theorem isB.nar {x : Int32} (h : isB x) : narrow .boolean (.int x) = .int x := by rcases h with rfl | rfl <;> rfl
theorem isB.fit {x : Int32} (h : isB x) : fits .boolean (.int x) = true := by rcases h with rfl | rfl <;> rfl
/-- a written index within -/
theorem vpl {i : Int32} {n : Nat} (h : (decide (i < 0) || decide (n ≤ i.toNatClampNeg)) = false) : vp_in i n := by
  intro h2
  rw [Bool.or_eq_false_iff] at h
  rcases h2 with h2 | h2
  · exact of_decide_eq_false h.1 h2
  · exact of_decide_eq_false h.2 h2
/-- a switch over 0 .. n: none of these -/
theorem tab_out {x : Int32} {hi : Int} (h : ∀ k : Nat, (k : Int) ≤ hi → ¬ x.toInt = k) : x.toInt < 0 ∨ hi < x.toInt := by
  rcases Int.lt_or_le x.toInt 0 with h1 | h1
  · exact Or.inl h1
  · rcases Int.lt_or_le hi x.toInt with h2 | h2
    · exact Or.inr h2
    · obtain ⟨n, hn⟩ := Int.eq_ofNat_of_zero_le h1
      exact absurd hn (h n (by rw [← hn]; exact h2))
section R
variable {p : Program} {l : Launch} {e : Env} {R : Room} {s : State} {m : MethodId} {args : Array Value} {below : List Frame} {meth : Method} {c : Code} {H : Heap} {locs : List Loc} {cells slots : Nat} {Q : State → Prop}
variable {cc : ByteArray} {nL : Nat} {ret : Option FieldType} {own : String} {Ts : List Cond} {D : va_G} {t : T3} {A : Nat → Prop} {H0 : Heap} {ws ws' : va_W} {pc : Nat} {ls : Array Slot} {rest : List Value} {a : Nat}
theorem r_get (X : Cx p s m meth c args cc nL ret own Ts D t A) (hw : Wd D A H0 ws H locs) {C : String} {T : u_T} {N ci index : Nat} (q0 : Nat) {fs : List Value} (he : ws[q0]? = some (a, .inr (ci, fs))) (hc : vwCl[ci]? = some (C, T, N)) (k : Nat) (hk : k < N) (hin : ∀ w ∈ u_ws C T N, w ∈ Ts) (hlink : Cond.fieldLink own index (T k).1 (T k).2.1 (T k).2.2.1 ∈ Ts) {v : Value} (hv : fs[k]? = some v) (hdg : decode cc pc = .ok (.getfield index, 3))
    (kk : W p l e R s m args below meth c H locs cells slots Q (F0 m (pc + 3) ls (v :: rest))) : W p l e R s m args below meth c H locs cells slots Q (F0 m pc ls (.ref a :: rest)) :=
  va_get X.1.1 X.1.2.1 X.1.2.2.2.2 hin X.1.2.2.2.1 X.2.2.2.1.1 hw.1 q0 he hc k hk (X.1.2.2.2.2 _ hlink) (fun _ h => h) hv hdg kk
theorem r_put (X : Cx p s m meth c args cc nL ret own Ts D t A) (hw : Wd D A H0 ws H locs) {C : String} {T : u_T} {N ci index : Nat} (q0 : Nat) {fs : List Value} (he : ws[q0]? = some (a, .inr (ci, fs))) (hc : vwCl[ci]? = some (C, T, N)) (k : Nat) (hk : k < N) (hin : ∀ w ∈ u_ws C T N, w ∈ Ts) (ty0 : Nat → FieldType) (hty : ∀ k, k < N → parseFieldDescriptor (T k).2.2.1 = some (ty0 k)) (hnm : ∀ a, a < N → ∀ b, b < N → a ≠ b → (T a).2.1 ≠ (T b).2.1) (hlink : Cond.fieldLink own index (T k).1 (T k).2.1 (T k).2.2.1 ∈ Ts) (hfin : (T k).2.2.2 = false) {v : Value} (hn : narrow (ty0 k) v = v) (hfit : fits (ty0 k) v = true) (hl : k < fs.length) (hws : ws.set q0 (a, .inr (ci, fs.set k v)) = ws') (hdg : decode cc pc = .ok (.putfield index, 3))
    (kk : ∀ (H1 : Heap) (locs1 : List Loc), Wd D A H0 ws' H1 locs1 → W p l e R s m args below meth c H1 locs1 cells slots Q (F0 m (pc + 3) ls rest)) : W p l e R s m args below meth c H locs cells slots Q (F0 m pc ls (v :: .ref a :: rest)) := by
  subst hws
  exact va_put X.1.1 X.1.2.1 X.1.2.2.2.2 hin ty0 hty hnm X.1.2.2.2.1 X.2.2.2.1.1 hw.1 hw.2.1 hw.2.2 q0 he hc k hk (X.1.2.2.2.2 _ hlink) (fun _ h => h) hfin (hty k hk) hn hfit hl hdg (fun H1 locs1 h1 h2 h3 => kk H1 locs1 ⟨h1, h2, h3⟩)
theorem r_putF (X : Cx p s m meth c args cc nL ret own Ts D t A) (hin2 : meth.name = "<init>") (hw : Wd D A H0 ws H locs) {C : String} {T : u_T} {N ci index : Nat} (q0 : Nat) {fs : List Value} (he : ws[q0]? = some (a, .inr (ci, fs))) (hc : vwCl[ci]? = some (C, T, N)) (k : Nat) (hk : k < N) (hin : ∀ w ∈ u_ws C T N, w ∈ Ts) (ty0 : Nat → FieldType) (hty : ∀ k, k < N → parseFieldDescriptor (T k).2.2.1 = some (ty0 k)) (hnm : ∀ a, a < N → ∀ b, b < N → a ≠ b → (T a).2.1 ≠ (T b).2.1) (hlink : Cond.fieldLink own index (T k).1 (T k).2.1 (T k).2.2.1 ∈ Ts) (hfin : (T k).2.2.2 = true) (hdecl : (T k).1 = own) {v : Value} (hn : narrow (ty0 k) v = v) (hfit : fits (ty0 k) v = true) (hl : k < fs.length) (hws : ws.set q0 (a, .inr (ci, fs.set k v)) = ws') (hdg : decode cc pc = .ok (.putfield index, 3))
    (kk : ∀ (H1 : Heap) (locs1 : List Loc), Wd D A H0 ws' H1 locs1 → W p l e R s m args below meth c H1 locs1 cells slots Q (F0 m (pc + 3) ls rest)) : W p l e R s m args below meth c H locs cells slots Q (F0 m pc ls (v :: .ref a :: rest)) := by
  subst hws
  exact va_putF X.1.1 X.1.2.1 X.1.2.2.2.2 hin ty0 hty hnm X.1.2.2.2.1 X.2.2.2.1.1 hw.1 hw.2.1 hw.2.2 q0 he hc k hk (X.1.2.2.2.2 _ hlink) (fun _ h => h) hfin hin2 hdecl (hty k hk) hn hfit hl hdg (fun H1 locs1 h1 h2 h3 => kk H1 locs1 ⟨h1, h2, h3⟩)
theorem r_iald (X : Cx p s m meth c args cc nL ret own Ts D t A) (hw : Wd D A H0 ws H locs) (q0 : Nat) {n : Nat} {f : Nat → Int32} (ha : ws[q0]? = some (a, .inl (t.1, n, .inl f))) {i v : Int32} (hin : vp_in i n) (hv : f i.toNatClampNeg = v) (hdg : decode cc pc = .ok (.iaload, 1))
    (kk : W p l e R s m args below meth c H locs cells slots Q (F0 m (pc + 1) ls (.int v :: rest))) : W p l e R s m args below meth c H locs cells slots Q (F0 m pc ls (.int i :: .ref a :: rest)) := by
  subst hv
  exact va_iald X.1.1 X.1.2.1 X.2.2.2.1.1 hw.1 q0 0 ha rfl hin hdg kk
theorem r_iast (X : Cx p s m meth c args cc nL ret own Ts D t A) (hw : Wd D A H0 ws H locs) (q0 : Nat) {n : Nat} {f : Nat → Int32} (ha : ws[q0]? = some (a, .inl (t.1, n, .inl f))) {i x : Int32} (hin : vp_in i n) (hws : ws.set q0 (a, .inl (t.1, n, .inl (upd f i.toNatClampNeg x))) = ws') (hdg : decode cc pc = .ok (.iastore, 1))
    (kk : ∀ (H1 : Heap) (locs1 : List Loc), Wd D A H0 ws' H1 locs1 → W p l e R s m args below meth c H1 locs1 cells slots Q (F0 m (pc + 1) ls rest)) : W p l e R s m args below meth c H locs cells slots Q (F0 m pc ls (.int x :: .int i :: .ref a :: rest)) := by
  subst hws
  exact va_iast X.1.1 X.1.2.1 X.2.2.2.1.1 hw.1 hw.2.1 hw.2.2 q0 0 ha rfl hin hdg (fun H1 locs1 h1 h2 h3 => kk H1 locs1 ⟨h1, h2, h3⟩)
/-- a reference out of an array of Boards (k = 1) or Needs (k = 2) -/
theorem r_aald (X : Cx p s m meth c args cc nL ret own Ts D t A) (hw : Wd D A H0 ws H locs) (q0 k : Nat) {cA : ClassId} {C : String} {n : Nat} {f : Nat → Option Nat} (ha : ws[q0]? = some (a, .inl (cA, n, .inr (.inr (.inr (.inr f)))))) (ht : (tys t)[k]? = some (cA, .object C)) {i : Int32} {b : Nat} (hin : vp_in i n) (hv : f i.toNatClampNeg = some b) (hdg : decode cc pc = .ok (.aaload, 1))
    (kk : W p l e R s m args below meth c H locs cells slots Q (F0 m (pc + 1) ls (.ref b :: rest))) : W p l e R s m args below meth c H locs cells slots Q (F0 m pc ls (.int i :: .ref a :: rest)) := by
  refine va_aldq X.1.1 X.1.2.1 X.2.2.2.1.1 hw.1 q0 k ha ht hin hdg ?_
  rw [hv]
  exact kk
/-! ends -/
abbrev Ei {S : Type} (below : List Frame) (args : Array Value) (s : State) (A : Nat → Prop) (D : va_G) (w1 : S → va_W) (post : Int32 → S → Prop) (mc ms : Nat) : State → Prop := MQ below (va_Qi post (B1 D w1 A) A) args s mc ms A
abbrev El {S : Type} (below : List Frame) (args : Array Value) (s : State) (A : Nat → Prop) (D : va_G) (w1 : S → va_W) (post : Int64 → S → Prop) (mc ms : Nat) : State → Prop := MQ below (va_Ql post (B1 D w1 A) A) args s mc ms A
abbrev Ed {S : Type} (below : List Frame) (args : Array Value) (s : State) (A : Nat → Prop) (D : va_G) (w1 : S → va_W) (post : UInt64 → S → Prop) (mc ms : Nat) : State → Prop := MQ below (va_Qd post (B1 D w1 A) A) args s mc ms A
abbrev Ev {S : Type} (below : List Frame) (args : Array Value) (s : State) (A : Nat → Prop) (D : va_G) (w1 : S → va_W) (post : S → Prop) (mc ms : Nat) : State → Prop := MQ below (va_Qv post (B1 D w1 A) A) args s mc ms A
theorem e_i {S : Type} {w1 : S → va_W} {post : Int32 → S → Prop} (X : Cx p s m meth c args cc nL (some .int) own Ts D t A) {v : Int32} (u : S) (hw : Wd D A s.heap (w1 u) H locs) (hp : post v u) (hdg : decode cc pc = .ok (.ireturn, 1)) :
    W p l e R s m args below meth c H locs cells slots (Ei below args s A D w1 post cells slots) (F0 m pc ls [.int v]) := by
  have hlocks : meth.locks = false := X.2.2.1
  exact W.iret (v := v) X.1.1 X.1.2.1 X.2.1 (fun T hT hW => ⟨⟨v, u, rfl, hp, by rw [hT]; exact hw.1, hw.2.1⟩, hw.2.2.F hT⟩) hw.2.2.2.2 hdg
theorem e_z {S : Type} {w1 : S → va_W} {post : Int32 → S → Prop} (X : Cx p s m meth c args cc nL (some .boolean) own Ts D t A) {v : Int32} (hb : isB v) (u : S) (hw : Wd D A s.heap (w1 u) H locs) (hp : post v u) (hdg : decode cc pc = .ok (.ireturn, 1)) :
    W p l e R s m args below meth c H locs cells slots (Ei below args s A D w1 post cells slots) (F0 m pc ls [.int v]) := by
  have hlocks : meth.locks = false := X.2.2.1
  exact W.zret (v := v) X.1.1 X.1.2.1 X.2.1 hb.nar (fun T hT hW => ⟨⟨v, u, rfl, hp, by rw [hT]; exact hw.1, hw.2.1⟩, hw.2.2.F hT⟩) hw.2.2.2.2 hdg
theorem e_l {S : Type} {w1 : S → va_W} {post : Int64 → S → Prop} (X : Cx p s m meth c args cc nL (some .long) own Ts D t A) {v : Int64} (u : S) (hw : Wd D A s.heap (w1 u) H locs) (hp : post v u) (hdg : decode cc pc = .ok (.lreturn, 1)) :
    W p l e R s m args below meth c H locs cells slots (El below args s A D w1 post cells slots) (F0 m pc ls [.long v]) := by
  have hlocks : meth.locks = false := X.2.2.1
  exact W.lret (v := v) X.1.1 X.1.2.1 X.2.1 (fun T hT hW => ⟨⟨v, u, rfl, hp, by rw [hT]; exact hw.1, hw.2.1⟩, hw.2.2.F hT⟩) hw.2.2.2.2 hdg
theorem e_d {S : Type} {w1 : S → va_W} {post : UInt64 → S → Prop} (X : Cx p s m meth c args cc nL (some .double) own Ts D t A) {v : UInt64} (u : S) (hw : Wd D A s.heap (w1 u) H locs) (hp : post v u) (hdg : decode cc pc = .ok (.dreturn, 1)) :
    W p l e R s m args below meth c H locs cells slots (Ed below args s A D w1 post cells slots) (F0 m pc ls [.double v]) := by
  have hlocks : meth.locks = false := X.2.2.1
  exact W.dret (v := v) X.1.1 X.1.2.1 X.2.1 (fun T hT hW => ⟨⟨v, u, rfl, hp, by rw [hT]; exact hw.1, hw.2.1⟩, hw.2.2.F hT⟩) hw.2.2.2.2 hdg
theorem e_v {S : Type} {w1 : S → va_W} {post : S → Prop} (X : Cx p s m meth c args cc nL none own Ts D t A) (u : S) (hw : Wd D A s.heap (w1 u) H locs) (hp : post u) (hdg : decode cc pc = .ok (.return_, 1)) :
    W p l e R s m args below meth c H locs cells slots (Ev below args s A D w1 post cells slots) (F0 m pc ls []) := by
  have hlocks : meth.locks = false := X.2.2.1
  exact W.vret X.1.1 X.1.2.1 X.2.1 (fun T hT hW => ⟨⟨u, rfl, hp, by rw [hT]; exact hw.1, hw.2.1⟩, hw.2.2.F hT⟩) hw.2.2.2.2 hdg
end R
/-- a contract out of a walk -/
theorem Ct.of {l : Launch} {y : MethodName} {ws ws' : List Cond} {fr lo mc ms : Nat} {As : List Value} {D : va_G} {t : T3} {w0 : va_W} {Qf : Nat → (Nat → Prop) → Array Value → State → Outcome → State → Prop} (cc : ByteArray) (maxL : Nat) (ret : Option FieldType) (hy : plainName y.cls = true) (hw : ws = Cond.code y cc maxL ret :: ws') (hlen : (lg_sl As).length ≤ maxL)
    (body : ∀ (p : Program) (e : Env) (s : State) (m : MethodId) (below : List Frame) (meth : Method) (c : Code) (A : Nat → Prop) (ls : Array Slot), (va_A w0 s.heap.size = A) → meth.name = y.name → Cx p s m meth c As.toArray cc maxL ret y.cls ws D t A → Wd D A s.heap w0 s.heap [] → lv_has ls maxL (lv_args 0 As) →
      W p l e ({ frames := fr, cells := mc, slots := ms, locals := lo }) s m As.toArray below meth c s.heap [] 0 0 (MQ below (Qf s.heap.size A) As.toArray s mc ms A) (F0 m 0 ls [])) :
    Ct l y ws fr lo mc ms As D t w0 (fun sz => Qf sz (va_A w0 sz)) := by
  intro sz
  refine Met.ofW (cc := cc) (maxL := maxL) (ret := ret) hy hw ?_
  intro p e s m args below meth c s₁ B hml hv
  obtain ⟨rfl, hsz, hP, hK, hD0, hZ⟩ := hv
  subst hsz
  have hts := atoms_spec (ws := ws) B.pre
  have hl := lv_entry As hlen
  rw [lg_entry_eq]
  exact body p e s m below meth c _ _ rfl (name_of_methodNamed B.named B.method).1 ⟨⟨B.exec, B.bytes, hml, findClass_of_methodNamed B.named, hts⟩, B.returns, B.notSynchronized, hK, fun q h => Or.inr h, hZ⟩ ⟨hP, hD0.self, va_S.rf⟩ hl
/-! worlds as sets of cells: any order is as good -/
theorem va_P_iff {D : va_G} {cl : List vw_C} {ws : va_W} {H : Heap} : va_P D cl ws H ↔ ∀ q ∈ ws, va_at D cl q H :=
  ⟨fun h q hq => by obtain ⟨k, hk⟩ := List.getElem?_of_mem hq; exact h k q hk, fun h k q hk => h q (List.mem_of_getElem? hk)⟩
theorem va_D_iff {A : Nat → Prop} {ws : va_W} : va_D A ws ↔ (ws.map (fun q => q.1)).Nodup ∧ ∀ q ∈ ws, A q.1 := by
  constructor
  · intro h
    refine ⟨?_, fun q hq => by obtain ⟨k, hk⟩ := List.getElem?_of_mem hq; exact h.2 k q hk⟩
    refine List.pairwise_iff_getElem.mpr (fun i j hi hj hij e => ?_)
    rw [List.getElem_map, List.getElem_map] at e
    rw [List.length_map] at hi hj
    have := h.1 i j _ _ (List.getElem?_eq_getElem hi) (List.getElem?_eq_getElem hj) e
    omega
  · intro h
    refine ⟨fun i j p q hp hq e => ?_, fun k q hk => h.2 q (List.mem_of_getElem? hk)⟩
    obtain ⟨hi, ei⟩ := List.getElem?_eq_some_iff.mp hp
    obtain ⟨hj, ej⟩ := List.getElem?_eq_some_iff.mp hq
    have h1 := List.pairwise_iff_getElem.mp h.1
    have li : i < (ws.map (fun q => q.1)).length := by rw [List.length_map]; exact hi
    have lj : j < (ws.map (fun q => q.1)).length := by rw [List.length_map]; exact hj
    rcases Nat.lt_trichotomy i j with c | c | c
    · have := h1 i j li lj c
      rw [List.getElem_map, List.getElem_map, ei, ej] at this
      exact absurd e this
    · exact c
    · have := h1 j i lj li c
      rw [List.getElem_map, List.getElem_map, ei, ej] at this
      exact absurd e.symm this
theorem Wd.perm {D : va_G} {A : Nat → Prop} {H0 H : Heap} {ws ws' : va_W} {locs : List Loc} (hp : ws.Perm ws') (hw : Wd D A H0 ws H locs) : Wd D A H0 ws' H locs := by
  obtain ⟨h1, h2, h3⟩ := hw
  rw [va_P_iff] at h1
  rw [va_D_iff] at h2
  exact ⟨va_P_iff.mpr (fun q hq => h1 q (hp.mem_iff.mpr hq)), va_D_iff.mpr ⟨(hp.map _).nodup_iff.mp h2.1, fun q hq => h2.2 q (hp.mem_iff.mpr hq)⟩, h3⟩
theorem Wd.part {D : va_G} {A : Nat → Prop} {H0 H : Heap} {ws wc wr : va_W} {locs : List Loc} (hp : ws.Perm (wc ++ wr)) (hw : Wd D A H0 ws H locs) : Wd D A H0 wc H locs := by
  obtain ⟨h1, h2, h3⟩ := hw.perm hp
  rw [va_P_iff] at h1
  rw [va_D_iff] at h2
  refine ⟨va_P_iff.mpr (fun q hq => h1 q (List.mem_append_left _ hq)), va_D_iff.mpr ⟨?_, fun q hq => h2.2 q (List.mem_append_left _ hq)⟩, h3⟩
  have := h2.1
  rw [List.map_append] at this
  exact (List.nodup_append.mp this).1
theorem ap_0 (d : va_W) : [] ++ d = d := rfl
theorem ap_1 (a d : va_W) : a ++ d = a ++ d := rfl
theorem ap_2 (a b d : va_W) : (a ++ b) ++ d = a ++ (b ++ d) := List.append_assoc a b d
theorem ap_3 (a b c d : va_W) : (a ++ (b ++ c)) ++ d = a ++ (b ++ (c ++ d)) := by rw [List.append_assoc, ap_2]
theorem ap_4 (a b c x d : va_W) : (a ++ (b ++ (c ++ x))) ++ d = a ++ (b ++ (c ++ (x ++ d))) := by rw [List.append_assoc, ap_3]
theorem ap_5 (a b c x y d : va_W) : (a ++ (b ++ (c ++ (x ++ y)))) ++ d = a ++ (b ++ (c ++ (x ++ (y ++ d)))) := by rw [List.append_assoc, ap_4]
theorem pm_0 {c : va_W} : c.Perm (c ++ []) := by rw [List.append_nil]
theorem pm_n {w : va_W} : w.Perm ([] ++ w) := List.Perm.refl _
theorem pm_r {c p r1 r2 : va_W} (h : r1.Perm (c ++ r2)) : (p ++ r1).Perm (c ++ (p ++ r2)) := by
  refine (h.append_left p).trans ?_
  rw [← List.append_assoc, ← List.append_assoc]
  exact List.perm_append_comm.append_right r2
theorem pm_l {c p r1 r2 : va_W} (h : r1.Perm (c ++ r2)) : (r1 ++ p).Perm (c ++ (r2 ++ p)) := by
  rw [← List.append_assoc]
  exact h.append_right p
theorem pm_2 {w c1 c2 r1 r2 : va_W} (h1 : w.Perm (c1 ++ r1)) (h2 : r1.Perm (c2 ++ r2)) : w.Perm ((c1 ++ c2) ++ r2) := by
  rw [List.append_assoc]
  exact h1.trans (h2.append_left c1)
section C
variable {p : Program} {l : Launch} {e : Env} {R : Room} {s : State} {m : MethodId} {args : Array Value} {below : List Frame} {meth : Method} {c : Code} {H : Heap} {locs : List Loc} {cells slots : Nat} {Q : State → Prop}
variable {cc : ByteArray} {nL : Nat} {ret : Option FieldType} {own : String} {Ts : List Cond} {D : va_G} {t : T3} {A : Nat → Prop} {ws wc wr : va_W} {pc : Nat} {ls : Array Slot} {rest st0 As : List Value} {y : MethodName} {yw : List Cond} {fr lo mc ms n index b maxL : Nat} {bytes : ByteArray} {yret : Option FieldType} {lv : List (Nat × Value)} {C : String} {Qc : Nat → Array Value → State → Outcome → State → Prop}
/-- the callee's cells out of the world -/
theorem Wd.cut {H0 : Heap} (hw : Wd D A H0 ws H locs) (hp : ws.Perm (wc ++ wr)) : va_P D vwCl wc H ∧ va_D (fun _ => True) wc ∧ (∀ q, va_A wc H.size q → (∀ q, H.size ≤ q → A q) → A q) := by
  obtain ⟨h1, h2, h3⟩ := hw.perm hp
  rw [va_P_iff] at h1
  rw [va_D_iff] at h2
  refine ⟨va_P_iff.mpr (fun q hq => h1 q (List.mem_append_left _ hq)), va_D_iff.mpr ⟨?_, fun _ _ => trivial⟩, fun q hq hA => ?_⟩
  · have := h2.1
    rw [List.map_append] at this
    exact (List.nodup_append.mp this).1
  · rcases hq with ⟨k, e, hk⟩ | hq
    · exact h2.2 (q, e) (List.mem_append_left _ (List.mem_of_getElem? hk))
    · exact hA q hq
theorem r_runV (X : Cx p s m meth c args cc nL ret own Ts D t A) (hw : Wd D A s.heap ws H locs) (ct : Ct l y yw fr lo mc ms (.ref b :: As) D t wc Qc) (hp : ws.Perm (wc ++ wr))
    (cw : CallW R s args own C index y bytes maxL yret yw ({ frames := fr, cells := mc, slots := ms, locals := lo }) mc ms n) {ci : Nat} {fs : List Value} {q : vw_C} (hq : vwCl[ci]? = some q) (he : wc[0]? = some (b, .inr (ci, fs))) (hqC : q.1 = C) (hlen : As.length = n) (hl : lv_has ls nL lv) (hst : st0 = As.reverse ++ .ref b :: rest) (hW : (rest.map fun v => v.category).sum ≤ 8) (hdg : decode cc pc = .ok (.invokevirtual index, 3)) (hcs : cells + mc ≤ R.cells ∧ slots + ms ≤ R.slots) :
    va_Run p l e R s m args below meth c H locs cells slots mc ms (F0 m pc ls st0) rest (Qc H.size (Value.ref b :: As).toArray) (va_A wc H.size) := by
  obtain ⟨hPc, hDc, hFc⟩ := hw.cut hp
  have hZc : ∀ U : State, U.heap = H → s.WarmedH U.vm → ZA (va_A wc H.size) U U.heap := fun U hU hW => by rw [hU]; exact ZA.to X.2.2.2.2.2 hw.2.2.2.1 hW.alike (fun q h => hFc q h (fun z hz => X.2.2.2.2.1 z (Nat.le_trans hw.2.2.1 hz)))
  subst hqC
  exact va_runV X.1 (ct H.size) cw ⟨Pc0.blind, va_recv X.2.2.2.1.1 hPc hq he, fun U hU hW => ⟨rfl, by rw [hU], by rw [hU]; exact hPc, X.2.2.2.1.warm hW, hDc, hZc U hU hW⟩⟩ rfl hlen hl.1 hst (lv_room hW) hdg hcs
theorem r_runS (X : Cx p s m meth c args cc nL ret own Ts D t A) (hw : Wd D A s.heap ws H locs) (ct : Ct l y yw fr lo mc ms As D t wc Qc) (hp : ws.Perm (wc ++ wr))
    (cw : CallB R s args own index y bytes maxL yret yw ({ frames := fr, cells := mc, slots := ms, locals := lo }) mc ms n ∧ (Cond.static y).before args s = true) (hlen : As.length = n) (hl : lv_has ls nL lv) (hst : st0 = As.reverse ++ rest) (hW : (rest.map fun v => v.category).sum ≤ 8) (hdg : decode cc pc = .ok (.invokestatic index, 3)) (hcs : cells + mc ≤ R.cells ∧ slots + ms ≤ R.slots) :
    va_Run p l e R s m args below meth c H locs cells slots mc ms (F0 m pc ls st0) rest (Qc H.size As.toArray) (va_A wc H.size) := by
  obtain ⟨hPc, hDc, hFc⟩ := hw.cut hp
  have hZc : ∀ U : State, U.heap = H → s.WarmedH U.vm → ZA (va_A wc H.size) U U.heap := fun U hU hW => by rw [hU]; exact ZA.to X.2.2.2.2.2 hw.2.2.2.1 hW.alike (fun q h => hFc q h (fun z hz => X.2.2.2.2.1 z (Nat.le_trans hw.2.2.1 hz)))
  exact va_runS X.1 (ct H.size) cw ⟨Pc0.blind, fun U hU hW => ⟨rfl, by rw [hU], by rw [hU]; exact hPc, X.2.2.2.1.warm hW, hDc, hZc U hU hW⟩⟩ rfl hlen hl.1 hst (lv_room hW) hdg hcs
theorem r_runSN {host : String} (X : Cx p s m meth c args cc nL ret own Ts D t A) (hw : Wd D A s.heap ws H locs) (ct : Ct l y yw fr lo mc ms As D t wc Qc) (hp : ws.Perm (wc ++ wr))
    (cw : va_CN R s args own index y host bytes maxL yret yw ({ frames := fr, cells := mc, slots := ms, locals := lo }) mc ms n) (hsta : (Cond.static y).before args s = true) (hlen : As.length = n) (hl : lv_has ls nL lv) (hst : st0 = As.reverse ++ rest) (hW : (rest.map fun v => v.category).sum ≤ 8) (hdg : decode cc pc = .ok (.invokestatic index, 3)) (hcs : cells + mc ≤ R.cells ∧ slots + ms ≤ R.slots) :
    va_Run p l e R s m args below meth c H locs cells slots mc ms (F0 m pc ls st0) rest (Qc H.size As.toArray) (va_A wc H.size) := by
  obtain ⟨hPc, hDc, hFc⟩ := hw.cut hp
  have hZc : ∀ U : State, U.heap = H → s.WarmedH U.vm → ZA (va_A wc H.size) U U.heap := fun U hU hW => by rw [hU]; exact ZA.to X.2.2.2.2.2 hw.2.2.2.1 hW.alike (fun q h => hFc q h (fun z hz => X.2.2.2.2.1 z (Nat.le_trans hw.2.2.1 hz)))
  exact va_runSN X.1 (ct H.size) ⟨cw, hsta, trivial⟩ ⟨Pc0.blind, fun U hU hW => ⟨rfl, by rw [hU], by rw [hU]; exact hPc, X.2.2.2.1.warm hW, hDc, hZc U hU hW⟩⟩ rfl hlen hl.1 hst (lv_room hW) hdg hcs
/-- behind a call: the caller's other cells, and the callee's -/
theorem Wd.join {w1 wn : va_W} {H1 : Heap} {locs1 : List Loc} (hw : Wd D A s.heap ws H locs) (hp : ws.Perm (wc ++ wr)) (hn : (w1 ++ wr).Perm wn) (hA : ∀ q, va_A wc H.size q → A q)
    (hP1 : va_P D vwCl w1 H1) (hD1 : va_D (va_A wc H.size) w1) (hk1 : ∀ q : Nat, q < H.size → ¬ va_A wc H.size q → H1[q]? = H[q]?) (hS : va_S A s.heap H1 locs1) : Wd D A s.heap wn H1 locs1 := by
  obtain ⟨h1, h2, h3⟩ := hw.perm hp
  rw [va_P_iff] at h1 hP1
  rw [va_D_iff] at h2 hD1
  have hnd := h2.1
  rw [List.map_append] at hnd
  obtain ⟨n1, n2, n3⟩ := List.nodup_append.mp hnd
  have apart : ∀ q ∈ wr, q.1 < H.size ∧ ¬ va_A wc H.size q.1 := by
    intro q hq
    have hl := (h1 q (List.mem_append_right _ hq)).lt
    refine ⟨hl, fun h => ?_⟩
    rcases h with ⟨k, e, hk⟩ | h
    · exact n3 q.1 (List.mem_map.mpr ⟨(q.1, e), List.mem_of_getElem? hk, rfl⟩) q.1 (List.mem_map.mpr ⟨q, hq, rfl⟩) rfl
    · omega
  refine Wd.perm hn ⟨va_P_iff.mpr (fun q hq => ?_), va_D_iff.mpr ⟨?_, fun q hq => ?_⟩, hS⟩
  · rcases List.mem_append.mp hq with hq | hq
    · exact hP1 q hq
    · obtain ⟨g1, g2⟩ := apart q hq
      exact (h1 q (List.mem_append_right _ hq)).kept (hk1 q.1 g1 g2)
  · rw [List.map_append]
    refine List.nodup_append.mpr ⟨hD1.1, n2, fun a ha b hb => ?_⟩
    obtain ⟨q1, hq1, rfl⟩ := List.mem_map.mp ha
    obtain ⟨q2, hq2, rfl⟩ := List.mem_map.mp hb
    intro e
    exact (apart q2 hq2).2 (by rw [← e]; exact hD1.2 q1 hq1)
  · rcases List.mem_append.mp hq with hq | hq
    · exact hA q.1 (hD1.2 q hq)
    · exact h2.2 q (List.mem_append_right _ hq)
theorem r_ci {S : Type} {w1 wn : S → va_W} {post : Int32 → S → Prop} {ac : Array Value} (X : Cx p s m meth c args cc nL ret own Ts D t A) (hw : Wd D A s.heap ws H locs) (hp : ws.Perm (wc ++ wr)) (hn : ∀ u, (w1 u ++ wr).Perm (wn u))
    (hr : va_Run p l e R s m args below meth c H locs cells slots mc ms (F0 m pc ls st0) rest (Qi D wc w1 post H.size ac) (va_A wc H.size))
    (kk : ∀ (r : Int32) (u : S) (H1 : Heap) (locs1 : List Loc), post r u → Wd D A s.heap (wn u) H1 locs1 → W p l e R s m args below meth c H1 locs1 (cells + mc) (slots + ms) Q (F0 m (pc + 3) ls (.int r :: rest))) : W p l e R s m args below meth c H locs cells slots Q (F0 m pc ls st0) := by
  have hF : ∀ q, va_A wc H.size q → A q := fun q h => (hw.cut hp).2.2 q h (fun z hz => X.2.2.2.2.1 z (Nat.le_trans hw.2.2.1 hz))
  exact va_calli hr hw.2.2 (fun q _ h => hF q h) hF (fun r u T H1 locs1 ht hvm hpo hB hz hk1 hS => kk r u H1 locs1 hpo (hw.join hp (hn u) hF (by rw [← ht]; exact hB.1) hB.2 hk1 hS))
theorem r_cl {S : Type} {w1 wn : S → va_W} {post : Int64 → S → Prop} {ac : Array Value} (X : Cx p s m meth c args cc nL ret own Ts D t A) (hw : Wd D A s.heap ws H locs) (hp : ws.Perm (wc ++ wr)) (hn : ∀ u, (w1 u ++ wr).Perm (wn u))
    (hr : va_Run p l e R s m args below meth c H locs cells slots mc ms (F0 m pc ls st0) rest (Ql D wc w1 post H.size ac) (va_A wc H.size))
    (kk : ∀ (r : Int64) (u : S) (H1 : Heap) (locs1 : List Loc), post r u → Wd D A s.heap (wn u) H1 locs1 → W p l e R s m args below meth c H1 locs1 (cells + mc) (slots + ms) Q (F0 m (pc + 3) ls (.long r :: rest))) : W p l e R s m args below meth c H locs cells slots Q (F0 m pc ls st0) := by
  have hF : ∀ q, va_A wc H.size q → A q := fun q h => (hw.cut hp).2.2 q h (fun z hz => X.2.2.2.2.1 z (Nat.le_trans hw.2.2.1 hz))
  exact va_calll hr hw.2.2 (fun q _ h => hF q h) hF (fun r u T H1 locs1 ht hvm hpo hB hz hk1 hS => kk r u H1 locs1 hpo (hw.join hp (hn u) hF (by rw [← ht]; exact hB.1) hB.2 hk1 hS))
theorem r_cd {S : Type} {w1 wn : S → va_W} {post : UInt64 → S → Prop} {ac : Array Value} (X : Cx p s m meth c args cc nL ret own Ts D t A) (hw : Wd D A s.heap ws H locs) (hp : ws.Perm (wc ++ wr)) (hn : ∀ u, (w1 u ++ wr).Perm (wn u))
    (hr : va_Run p l e R s m args below meth c H locs cells slots mc ms (F0 m pc ls st0) rest (Qd D wc w1 post H.size ac) (va_A wc H.size))
    (kk : ∀ (r : UInt64) (u : S) (H1 : Heap) (locs1 : List Loc), post r u → Wd D A s.heap (wn u) H1 locs1 → W p l e R s m args below meth c H1 locs1 (cells + mc) (slots + ms) Q (F0 m (pc + 3) ls (.double r :: rest))) : W p l e R s m args below meth c H locs cells slots Q (F0 m pc ls st0) := by
  have hF : ∀ q, va_A wc H.size q → A q := fun q h => (hw.cut hp).2.2 q h (fun z hz => X.2.2.2.2.1 z (Nat.le_trans hw.2.2.1 hz))
  exact va_calld hr hw.2.2 (fun q _ h => hF q h) hF (fun r u T H1 locs1 ht hvm hpo hB hz hk1 hS => kk r u H1 locs1 hpo (hw.join hp (hn u) hF (by rw [← ht]; exact hB.1) hB.2 hk1 hS))
theorem r_cv {S : Type} {w1 wn : S → va_W} {post : S → Prop} {ac : Array Value} (X : Cx p s m meth c args cc nL ret own Ts D t A) (hw : Wd D A s.heap ws H locs) (hp : ws.Perm (wc ++ wr)) (hn : ∀ u, (w1 u ++ wr).Perm (wn u))
    (hr : va_Run p l e R s m args below meth c H locs cells slots mc ms (F0 m pc ls st0) rest (Qv D wc w1 post H.size ac) (va_A wc H.size))
    (kk : ∀ (u : S) (H1 : Heap) (locs1 : List Loc), post u → Wd D A s.heap (wn u) H1 locs1 → W p l e R s m args below meth c H1 locs1 (cells + mc) (slots + ms) Q (F0 m (pc + 3) ls (rest))) : W p l e R s m args below meth c H locs cells slots Q (F0 m pc ls st0) := by
  have hF : ∀ q, va_A wc H.size q → A q := fun q h => (hw.cut hp).2.2 q h (fun z hz => X.2.2.2.2.1 z (Nat.le_trans hw.2.2.1 hz))
  exact va_callv hr hw.2.2 (fun q _ h => hF q h) hF (fun u T H1 locs1 ht hvm hpo hB hz hk1 hS => kk u H1 locs1 hpo (hw.join hp (hn u) hF (by rw [← ht]; exact hB.1) hB.2 hk1 hS))
end C
def jrem (x y : Int32) : Int32 := x - x / y * y
def jshl (x y : Int32) : Int32 := x <<< (y &&& 31)
def jshr (x y : Int32) : Int32 := x >>> (y &&& 31)
def jlshl (x : Int64) (y : Int32) : Int64 := x <<< (y.toInt64 &&& 63)
theorem i32_ne {x n : Int32} {k : Int} (h : ¬ x = n) (e : n.toInt = k) : ¬ x.toInt = k := fun h2 => h (Int32.toInt_inj.mp (h2.trans e.symm))
theorem look_out2 {x : Int32} {a b o1 o2 dflt : Int} (ha : ¬ x.toInt = a) (hb : ¬ x.toInt = b) : Op.lookupswitch.offset [(a, o1), (b, o2)] dflt x.toInt = dflt := by
  rw [Op.lookupswitch.offset_cons, if_neg (fun h => ha h.symm), Op.lookupswitch.offset_cons, if_neg (fun h => hb h.symm), Op.lookupswitch.offset_nil]
theorem tab_outL {x : Int32} (hi : Nat) (h : ∀ k : Nat, k ≤ hi → ¬ x = Int32.ofNat k) (hhi : hi < 2 ^ 31 := by decide) : x.toInt < 0 ∨ (hi : Int) < x.toInt := by
  refine tab_out (fun k hk e => h k (by omega) ?_)
  have h2 : (Int32.ofNat k).toInt = k := nI_toInt (by omega)
  exact Int32.toInt_inj.mp (e.trans h2.symm)
/-- an index within is a number -/
theorem idx_of {x : Int32} {n : Nat} (hn : n ≤ 2 ^ 31) (h : vp_in x n) : ∃ j : Nat, j < n ∧ x = nI j := by
  have h1 : ¬ x < 0 := fun q => h (Or.inl q)
  have h2 : x.toNatClampNeg < n := Nat.not_le.mp fun q => h (Or.inr q)
  obtain ⟨j, hj, rfl⟩ := nI_of h1
  rw [nI_clamp hj] at h2
  exact ⟨j, h2, rfl⟩
def upE {α : Type} (f : Nat → α) (k : Nat) (x : α) : Nat → α := fun j => if j = k then x else f j
section R2
variable {p : Program} {l : Launch} {e : Env} {R : Room} {s : State} {m : MethodId} {args : Array Value} {below : List Frame} {meth : Method} {c : Code} {H : Heap} {locs : List Loc} {cells slots : Nat} {Q : State → Prop}
variable {cc : ByteArray} {pc : Nat} {ls : Array Slot} {rest : List Value}
theorem r_irem (hexec : p.tables.exec = Jvm.exec) (hb : c.code = cc) {x y : Int32} (hdg : decode cc pc = .ok (.irem, 1)) (hne : ¬ y = 0)
    (k : W p l e R s m args below meth c H locs cells slots Q (F0 m (pc + 1) ls (.int (jrem x y) :: rest))) : W p l e R s m args below meth c H locs cells slots Q (F0 m pc ls (.int y :: .int x :: rest)) := lv_irem hexec hb hdg hne k
theorem r_ishl (hexec : p.tables.exec = Jvm.exec) (hb : c.code = cc) {x y : Int32} (hdg : decode cc pc = .ok (.ishl, 1))
    (k : W p l e R s m args below meth c H locs cells slots Q (F0 m (pc + 1) ls (.int (jshl x y) :: rest))) : W p l e R s m args below meth c H locs cells slots Q (F0 m pc ls (.int y :: .int x :: rest)) := lv_ishl hexec hb hdg k
theorem r_ishr (hexec : p.tables.exec = Jvm.exec) (hb : c.code = cc) {x y : Int32} (hdg : decode cc pc = .ok (.ishr, 1))
    (k : W p l e R s m args below meth c H locs cells slots Q (F0 m (pc + 1) ls (.int (jshr x y) :: rest))) : W p l e R s m args below meth c H locs cells slots Q (F0 m pc ls (.int y :: .int x :: rest)) := lv_ishr hexec hb hdg k
theorem r_iushr (hexec : p.tables.exec = Jvm.exec) (hb : c.code = cc) {x y : Int32} (hdg : decode cc pc = .ok (.iushr, 1))
    (k : W p l e R s m args below meth c H locs cells slots Q (F0 m (pc + 1) ls (.int (ushr x y) :: rest))) : W p l e R s m args below meth c H locs cells slots Q (F0 m pc ls (.int y :: .int x :: rest)) := lv_iushr hexec hb hdg rfl k
theorem r_lshl (hexec : p.tables.exec = Jvm.exec) (hb : c.code = cc) {x : Int64} {y : Int32} (hdg : decode cc pc = .ok (.lshl, 1))
    (k : W p l e R s m args below meth c H locs cells slots Q (F0 m (pc + 1) ls (.long (jlshl x y) :: rest))) : W p l e R s m args below meth c H locs cells slots Q (F0 m pc ls (.int y :: .long x :: rest)) := lv_lshl hexec hb hdg rfl k
end R2
section R3
variable {p : Program} {l : Launch} {e : Env} {R : Room} {s : State} {m : MethodId} {args : Array Value} {below : List Frame} {meth : Method} {c : Code} {H : Heap} {locs : List Loc} {cells slots : Nat} {Q : State → Prop}
variable {cc : ByteArray} {nL : Nat} {ret : Option FieldType} {own : String} {Ts : List Cond} {D : va_G} {t : T3} {A : Nat → Prop} {ws ws' : va_W} {pc : Nat} {ls : Array Slot} {rest : List Value} {a : Nat}
theorem r_copy (X : Cx p s m meth c args cc nL ret own Ts D t A) {lv : List (Nat × Value)} (hl : lv_has ls nL lv) (hw : Wd D A s.heap ws H locs) {index : Nat} (q0 q1 : Nat) {a0 n0 n1 : Nat} {f g : Nat → Int32} (ha0 : ws[q0]? = some (a0, .inl (t.1, n0, .inl f))) (ha1 : ws[q1]? = some (a, .inl (t.1, n1, .inl g)))
    (k1 : Cond.methodLink own index arraycopyName ∈ Ts) (k2 : Cond.native arraycopyName ∈ Ts) (k3 : Cond.static arraycopyName ∈ Ts) (k4 : Cond.initialized "java/lang/System" ∈ Ts)
    {sp dp n : Int32} (h1 : ¬ sp < 0) (h2 : ¬ dp < 0) (h3 : ¬ n < 0) (h4 : sp.toNatClampNeg + n.toNatClampNeg ≤ n0) (h5 : dp.toNatClampNeg + n.toNatClampNeg ≤ n1) (hframes : 1 ≤ R.frames) (hlocals : (rest.map fun v => v.category).sum + (nativeFrameWords "java/lang/System" "arraycopy" 5 + 11) ≤ R.locals)
    (hws : ws.set q1 (a, .inl (t.1, n1, .inl (va_cpy f g sp.toNatClampNeg dp.toNatClampNeg n.toNatClampNeg))) = ws') (hdg : decode cc pc = .ok (.invokestatic index, 3))
    (kk : ∀ (H1 : Heap) (locs1 : List Loc), Wd D A s.heap ws' H1 locs1 → W p l e R s m args below meth c H1 locs1 cells slots Q (F0 m (pc + 3) ls rest)) : W p l e R s m args below meth c H locs cells slots Q (F0 m pc ls (.int n :: .int dp :: .ref a :: .int sp :: .ref a0 :: rest)) := by
  subst hws
  have hts := X.1.2.2.2.2
  exact va_copyi X.1.1 X.1.2.1 (X.1.2.2.1.trans hl.1.symm) X.1.2.2.2.1 (hts _ k1) (hts _ k2) (hts _ k3) (hts _ k4) X.2.2.2.1.1 hw.1 hw.2.1 hw.2.2 q0 q1 0 0 ha0 ha1 rfl rfl rfl h1 h2 h3 h4 h5 (fun _ _ => rfl) hframes hlocals hdg (fun H1 locs1 h1 h2 h3 => kk H1 locs1 ⟨h1, h2, h3⟩)
end R3
theorem cases8 {j : Nat} (h : j < 8) : j = 0 ∨ j = 1 ∨ j = 2 ∨ j = 3 ∨ j = 4 ∨ j = 5 ∨ j = 6 ∨ j = 7 := by omega
theorem cases12 {j : Nat} (h : j < 12) : j = 0 ∨ j = 1 ∨ j = 2 ∨ j = 3 ∨ j = 4 ∨ j = 5 ∨ j = 6 ∨ j = 7 ∨ j = 8 ∨ j = 9 ∨ j = 10 ∨ j = 11 := by omega
abbrev IV : Type := Nat → Int32
abbrev BV : Type := Int32 × Int32 × Int32 × Int32 × Int32 × (Nat → Int32) × (Nat → Int32) × (Nat → Int32)
abbrev BV.rows (v : BV) : Int32 := v.1
abbrev BV.s_rows (v : BV) (x : Int32) : BV := (x, v.2.1, v.2.2.1, v.2.2.2.1, v.2.2.2.2.1, v.2.2.2.2.2.1, v.2.2.2.2.2.2.1, v.2.2.2.2.2.2.2)
abbrev BV.columns (v : BV) : Int32 := v.2.1
abbrev BV.s_columns (v : BV) (x : Int32) : BV := (v.1, x, v.2.2.1, v.2.2.2.1, v.2.2.2.2.1, v.2.2.2.2.2.1, v.2.2.2.2.2.2.1, v.2.2.2.2.2.2.2)
abbrev BV.rule (v : BV) : Int32 := v.2.2.1
abbrev BV.s_rule (v : BV) (x : Int32) : BV := (v.1, v.2.1, x, v.2.2.2.1, v.2.2.2.2.1, v.2.2.2.2.2.1, v.2.2.2.2.2.2.1, v.2.2.2.2.2.2.2)
abbrev BV.tiles (v : BV) : Int32 := v.2.2.2.1
abbrev BV.s_tiles (v : BV) (x : Int32) : BV := (v.1, v.2.1, v.2.2.1, x, v.2.2.2.2.1, v.2.2.2.2.2.1, v.2.2.2.2.2.2.1, v.2.2.2.2.2.2.2)
abbrev BV.fixed (v : BV) : Int32 := v.2.2.2.2.1
abbrev BV.s_fixed (v : BV) (x : Int32) : BV := (v.1, v.2.1, v.2.2.1, v.2.2.2.1, x, v.2.2.2.2.2.1, v.2.2.2.2.2.2.1, v.2.2.2.2.2.2.2)
abbrev BV.placings (v : BV) : (Nat → Int32) := v.2.2.2.2.2.1
abbrev BV.s_placings (v : BV) (x : (Nat → Int32)) : BV := (v.1, v.2.1, v.2.2.1, v.2.2.2.1, v.2.2.2.2.1, x, v.2.2.2.2.2.2.1, v.2.2.2.2.2.2.2)
abbrev BV.places (v : BV) : (Nat → Int32) := v.2.2.2.2.2.2.1
abbrev BV.s_places (v : BV) (x : (Nat → Int32)) : BV := (v.1, v.2.1, v.2.2.1, v.2.2.2.1, v.2.2.2.2.1, v.2.2.2.2.2.1, x, v.2.2.2.2.2.2.2)
abbrev BV.looks (v : BV) : (Nat → Int32) := v.2.2.2.2.2.2.2
abbrev BV.s_looks (v : BV) (x : (Nat → Int32)) : BV := (v.1, v.2.1, v.2.2.1, v.2.2.2.1, v.2.2.2.2.1, v.2.2.2.2.2.1, v.2.2.2.2.2.2.1, x)
abbrev BA : Type := Nat × Nat × Nat × Nat
abbrev BA.o (a : BA) : Nat := a.1
abbrev BA.placings (a : BA) : Nat := a.2.1
abbrev BA.places (a : BA) : Nat := a.2.2.1
abbrev BA.looks (a : BA) : Nat := a.2.2.2
abbrev bW (t : T3) (a : BA) (v : BV) : va_W := [((BA.o a), .inr (0, [.int (BV.rows v), .int (BV.columns v), .int (BV.rule v), .int (BV.tiles v), .int (BV.fixed v), .ref (BA.placings a), .ref (BA.places a), .ref (BA.looks a)]))] ++ ([((BA.placings a), .inl (t.1, 12, .inl (BV.placings v)))] ++ ([((BA.places a), .inl (t.1, 12, .inl (BV.places v)))] ++ ([((BA.looks a), .inl (t.1, 96, .inl (BV.looks v)))])))
abbrev DV : Type := Int32 × Int32 × Int32
abbrev DV.seed (v : DV) : Int32 := v.1
abbrev DV.s_seed (v : DV) (x : Int32) : DV := (x, v.2.1, v.2.2)
abbrev DV.colors (v : DV) : Int32 := v.2.1
abbrev DV.s_colors (v : DV) (x : Int32) : DV := (v.1, x, v.2.2)
abbrev DV.rest (v : DV) : Int32 := v.2.2
abbrev DV.s_rest (v : DV) (x : Int32) : DV := (v.1, v.2.1, x)
abbrev dW (t : T3) (a : Nat) (v : DV) : va_W := [(a, .inr (1, [.int (DV.seed v), .int (DV.colors v), .int (DV.rest v)]))]
abbrev NV : Type := Int32 × Int32 × Int32 × Int32
abbrev NV.mustBeZero (v : NV) : Int32 := v.1
abbrev NV.s_mustBeZero (v : NV) (x : Int32) : NV := (x, v.2.1, v.2.2.1, v.2.2.2)
abbrev NV.mustAgree (v : NV) : Int32 := v.2.1
abbrev NV.s_mustAgree (v : NV) (x : Int32) : NV := (v.1, x, v.2.2.1, v.2.2.2)
abbrev NV.wanted (v : NV) : Int32 := v.2.2.1
abbrev NV.s_wanted (v : NV) (x : Int32) : NV := (v.1, v.2.1, x, v.2.2.2)
abbrev NV.forbiddenZero (v : NV) : Int32 := v.2.2.2
abbrev NV.s_forbiddenZero (v : NV) (x : Int32) : NV := (v.1, v.2.1, v.2.2.1, x)
abbrev nW (t : T3) (a : Nat) (v : NV) : va_W := [(a, .inr (3, [.int (NV.mustBeZero v), .int (NV.mustAgree v), .int (NV.wanted v), .int (NV.forbiddenZero v)]))]
abbrev TV : Type := (Nat → Int32) × Int32
abbrev TV.codes (v : TV) : (Nat → Int32) := v.1
abbrev TV.s_codes (v : TV) (x : (Nat → Int32)) : TV := (x, v.2)
abbrev TV.length (v : TV) : Int32 := v.2
abbrev TV.s_length (v : TV) (x : Int32) : TV := (v.1, x)
abbrev TA : Type := Nat × Nat
abbrev TA.o (a : TA) : Nat := a.1
abbrev TA.codes (a : TA) : Nat := a.2
abbrev tW (t : T3) (a : TA) (v : TV) : va_W := [((TA.o a), .inr (5, [.ref (TA.codes a), .int (TV.length v)]))] ++ ([((TA.codes a), .inl (t.1, 60, .inl (TV.codes v)))])
abbrev HV : Type := (Nat → BV) × Int32 × Int32
abbrev HV.states (v : HV) : (Nat → BV) := v.1
abbrev HV.s_states (v : HV) (x : (Nat → BV)) : HV := (x, v.2.1, v.2.2)
abbrev HV.oldest (v : HV) : Int32 := v.2.1
abbrev HV.s_oldest (v : HV) (x : Int32) : HV := (v.1, x, v.2.2)
abbrev HV.kept (v : HV) : Int32 := v.2.2
abbrev HV.s_kept (v : HV) (x : Int32) : HV := (v.1, v.2.1, x)
abbrev HA : Type := Nat × Nat × (Nat → BA)
abbrev HA.o (a : HA) : Nat := a.1
abbrev HA.states (a : HA) : Nat := a.2.1
abbrev HA.states_e (a : HA) : (Nat → BA) := a.2.2
abbrev hW (t : T3) (a : HA) (v : HV) : va_W := [((HA.o a), .inr (2, [.ref (HA.states a), .int (HV.oldest v), .int (HV.kept v)]))] ++ ([((HA.states a), .inl (t.2.1, 8, .inr (.inr (.inr (.inr (fun j => some (BA.o ((HA.states_e a) j))))))))] ++ (bW t ((HA.states_e a) 0) ((HV.states v) 0) ++ (bW t ((HA.states_e a) 1) ((HV.states v) 1) ++ (bW t ((HA.states_e a) 2) ((HV.states v) 2) ++ (bW t ((HA.states_e a) 3) ((HV.states v) 3) ++ (bW t ((HA.states_e a) 4) ((HV.states v) 4) ++ (bW t ((HA.states_e a) 5) ((HV.states v) 5) ++ (bW t ((HA.states_e a) 6) ((HV.states v) 6) ++ (bW t ((HA.states_e a) 7) ((HV.states v) 7))))))))))
abbrev SV : Type := BV × Int32 × (Nat → NV) × Int32 × Int32 × Int32 × Int32
abbrev SV.trial (v : SV) : BV := v.1
abbrev SV.s_trial (v : SV) (x : BV) : SV := (x, v.2.1, v.2.2.1, v.2.2.2.1, v.2.2.2.2.1, v.2.2.2.2.2.1, v.2.2.2.2.2.2)
abbrev SV.found (v : SV) : Int32 := v.2.1
abbrev SV.s_found (v : SV) (x : Int32) : SV := (v.1, x, v.2.2.1, v.2.2.2.1, v.2.2.2.2.1, v.2.2.2.2.2.1, v.2.2.2.2.2.2)
abbrev SV.needs (v : SV) : (Nat → NV) := v.2.2.1
abbrev SV.s_needs (v : SV) (x : (Nat → NV)) : SV := (v.1, v.2.1, x, v.2.2.2.1, v.2.2.2.2.1, v.2.2.2.2.2.1, v.2.2.2.2.2.2)
abbrev SV.most (v : SV) : Int32 := v.2.2.2.1
abbrev SV.s_most (v : SV) (x : Int32) : SV := (v.1, v.2.1, v.2.2.1, x, v.2.2.2.2.1, v.2.2.2.2.2.1, v.2.2.2.2.2.2)
abbrev SV.steps (v : SV) : Int32 := v.2.2.2.2.1
abbrev SV.s_steps (v : SV) (x : Int32) : SV := (v.1, v.2.1, v.2.2.1, v.2.2.2.1, x, v.2.2.2.2.2.1, v.2.2.2.2.2.2)
abbrev SV.tooManySteps (v : SV) : Int32 := v.2.2.2.2.2.1
abbrev SV.s_tooManySteps (v : SV) (x : Int32) : SV := (v.1, v.2.1, v.2.2.1, v.2.2.2.1, v.2.2.2.2.1, x, v.2.2.2.2.2.2)
abbrev SV.over (v : SV) : Int32 := v.2.2.2.2.2.2
abbrev SV.s_over (v : SV) (x : Int32) : SV := (v.1, v.2.1, v.2.2.1, v.2.2.2.1, v.2.2.2.2.1, v.2.2.2.2.2.1, x)
abbrev SA : Type := Nat × BA × Nat × (Nat → Nat)
abbrev SA.o (a : SA) : Nat := a.1
abbrev SA.trial (a : SA) : BA := a.2.1
abbrev SA.needs (a : SA) : Nat := a.2.2.1
abbrev SA.needs_e (a : SA) : (Nat → Nat) := a.2.2.2
abbrev sW (t : T3) (a : SA) (v : SV) : va_W := [((SA.o a), .inr (4, [.ref (BA.o (SA.trial a)), .int (SV.found v), .ref (SA.needs a), .int (SV.most v), .int (SV.steps v), .int (SV.tooManySteps v), .int (SV.over v)]))] ++ (bW t (SA.trial a) (SV.trial v) ++ ([((SA.needs a), .inl (t.2.2.1, 12, .inr (.inr (.inr (.inr (fun j => some ((SA.needs_e a) j)))))))] ++ (nW t ((SA.needs_e a) 0) ((SV.needs v) 0) ++ (nW t ((SA.needs_e a) 1) ((SV.needs v) 1) ++ (nW t ((SA.needs_e a) 2) ((SV.needs v) 2) ++ (nW t ((SA.needs_e a) 3) ((SV.needs v) 3) ++ (nW t ((SA.needs_e a) 4) ((SV.needs v) 4) ++ (nW t ((SA.needs_e a) 5) ((SV.needs v) 5) ++ (nW t ((SA.needs_e a) 6) ((SV.needs v) 6) ++ (nW t ((SA.needs_e a) 7) ((SV.needs v) 7) ++ (nW t ((SA.needs_e a) 8) ((SV.needs v) 8) ++ (nW t ((SA.needs_e a) 9) ((SV.needs v) 9) ++ (nW t ((SA.needs_e a) 10) ((SV.needs v) 10) ++ (nW t ((SA.needs_e a) 11) ((SV.needs v) 11)))))))))))))))
abbrev XV : Type := BV × HV × TV × NV × SV × DV
abbrev XV.board (v : XV) : BV := v.1
abbrev XV.s_board (v : XV) (x : BV) : XV := (x, v.2.1, v.2.2.1, v.2.2.2.1, v.2.2.2.2.1, v.2.2.2.2.2)
abbrev XV.history (v : XV) : HV := v.2.1
abbrev XV.s_history (v : XV) (x : HV) : XV := (v.1, x, v.2.2.1, v.2.2.2.1, v.2.2.2.2.1, v.2.2.2.2.2)
abbrev XV.text (v : XV) : TV := v.2.2.1
abbrev XV.s_text (v : XV) (x : TV) : XV := (v.1, v.2.1, x, v.2.2.2.1, v.2.2.2.2.1, v.2.2.2.2.2)
abbrev XV.needs (v : XV) : NV := v.2.2.2.1
abbrev XV.s_needs (v : XV) (x : NV) : XV := (v.1, v.2.1, v.2.2.1, x, v.2.2.2.2.1, v.2.2.2.2.2)
abbrev XV.search (v : XV) : SV := v.2.2.2.2.1
abbrev XV.s_search (v : XV) (x : SV) : XV := (v.1, v.2.1, v.2.2.1, v.2.2.2.1, x, v.2.2.2.2.2)
abbrev XV.draws (v : XV) : DV := v.2.2.2.2.2
abbrev XV.s_draws (v : XV) (x : DV) : XV := (v.1, v.2.1, v.2.2.1, v.2.2.2.1, v.2.2.2.2.1, x)
abbrev XA : Type := Nat × BA × HA × TA × Nat × SA × Nat
abbrev XA.o (a : XA) : Nat := a.1
abbrev XA.board (a : XA) : BA := a.2.1
abbrev XA.history (a : XA) : HA := a.2.2.1
abbrev XA.text (a : XA) : TA := a.2.2.2.1
abbrev XA.needs (a : XA) : Nat := a.2.2.2.2.1
abbrev XA.search (a : XA) : SA := a.2.2.2.2.2.1
abbrev XA.draws (a : XA) : Nat := a.2.2.2.2.2.2
abbrev xW (t : T3) (a : XA) (v : XV) : va_W := [((XA.o a), .inr (6, [.ref (BA.o (XA.board a)), .ref (HA.o (XA.history a)), .ref (TA.o (XA.text a)), .ref (XA.needs a), .ref (SA.o (XA.search a)), .ref (XA.draws a)]))] ++ (bW t (XA.board a) (XV.board v) ++ (hW t (XA.history a) (XV.history v) ++ (tW t (XA.text a) (XV.text v) ++ (nW t (XA.needs a) (XV.needs v) ++ (sW t (XA.search a) (XV.search v) ++ (dW t (XA.draws a) (XV.draws v)))))))
abbrev i12W (t : T3) (a : Nat) (v : IV) : va_W := [(a, .inl (t.1, 12, .inl v))]
abbrev i15W (t : T3) (a : Nat) (v : IV) : va_W := [(a, .inl (t.1, 15, .inl v))]
abbrev i28W (t : T3) (a : Nat) (v : IV) : va_W := [(a, .inl (t.1, 28, .inl v))]
abbrev i48W (t : T3) (a : Nat) (v : IV) : va_W := [(a, .inl (t.1, 48, .inl v))]
