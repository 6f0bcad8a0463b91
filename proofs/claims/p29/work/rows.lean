section
-- ===== PART A: goes FIRST, ahead of the names: the tables' words, and 'selects' of the private methods out of them =====
/-- a private method of a class that the tables say can be made, by its rows of tables_1 -/
def lw_okq (q : MethodName × Nat) : Prop := (q.1.cls ≠ "java/lang/invoke/MethodHandle" ∧ q.1.cls ≠ "java/lang/invoke/VarHandle") ∧ Cond.instantiable q.1.cls q.2 ∈ tables_1 ∧ Cond.privateMethod q.1 ∈ tables_1 ∧ Cond.instanceMethod q.1 ∈ tables_1
theorem lw_p0 : lw_okq (⟨"java/lang/Throwable", "fillInStackTrace", "(I)Ljava/lang/Throwable;"⟩, 6) := ⟨⟨by decide +kernel, by decide +kernel⟩, List.mem_of_getElem? (i := 236) (by decide +kernel), List.mem_of_getElem? (i := 234) (by decide +kernel), List.mem_of_getElem? (i := 235) (by decide +kernel)⟩
theorem lw_p1 : lw_okq (⟨"TwoFacedTiles", "number", "(I)I"⟩, 6) := ⟨⟨by decide +kernel, by decide +kernel⟩, List.mem_of_getElem? (i := 17) (by decide +kernel), List.mem_of_getElem? (i := 297) (by decide +kernel), List.mem_of_getElem? (i := 298) (by decide +kernel)⟩
theorem lw_p2 : lw_okq (⟨"TwoFacedTiles$Board", "isAlike", "(III)Z"⟩, 8) := ⟨⟨by decide +kernel, by decide +kernel⟩, List.mem_of_getElem? (i := 25) (by decide +kernel), List.mem_of_getElem? (i := 323) (by decide +kernel), List.mem_of_getElem? (i := 324) (by decide +kernel)⟩
theorem lw_p3 : lw_okq (⟨"TwoFacedTiles", "misfits", "()I"⟩, 6) := ⟨⟨by decide +kernel, by decide +kernel⟩, List.mem_of_getElem? (i := 17) (by decide +kernel), List.mem_of_getElem? (i := 343) (by decide +kernel), List.mem_of_getElem? (i := 344) (by decide +kernel)⟩
theorem lw_p4 : lw_okq (⟨"TwoFacedTiles$Needs", "readNeighbor", "(III)V"⟩, 4) := ⟨⟨by decide +kernel, by decide +kernel⟩, List.mem_of_getElem? (i := 101) (by decide +kernel), List.mem_of_getElem? (i := 362) (by decide +kernel), List.mem_of_getElem? (i := 363) (by decide +kernel)⟩
theorem lw_p5 : lw_okq (⟨"TwoFacedTiles", "requireCell", "(I)V"⟩, 6) := ⟨⟨by decide +kernel, by decide +kernel⟩, List.mem_of_getElem? (i := 17) (by decide +kernel), List.mem_of_getElem? (i := 402) (by decide +kernel), List.mem_of_getElem? (i := 403) (by decide +kernel)⟩
theorem lw_p6 : lw_okq (⟨"TwoFacedTiles", "cellProperty", "(II)I"⟩, 6) := ⟨⟨by decide +kernel, by decide +kernel⟩, List.mem_of_getElem? (i := 17) (by decide +kernel), List.mem_of_getElem? (i := 427) (by decide +kernel), List.mem_of_getElem? (i := 428) (by decide +kernel)⟩
theorem lw_p7 : lw_okq (⟨"TwoFacedTiles", "possibleCount", "(I)I"⟩, 6) := ⟨⟨by decide +kernel, by decide +kernel⟩, List.mem_of_getElem? (i := 17) (by decide +kernel), List.mem_of_getElem? (i := 435) (by decide +kernel), List.mem_of_getElem? (i := 436) (by decide +kernel)⟩
theorem lw_p8 : lw_okq (⟨"TwoFacedTiles", "meetsNeeds", "(I)Z"⟩, 6) := ⟨⟨by decide +kernel, by decide +kernel⟩, List.mem_of_getElem? (i := 17) (by decide +kernel), List.mem_of_getElem? (i := 439) (by decide +kernel), List.mem_of_getElem? (i := 440) (by decide +kernel)⟩
theorem lw_p9 : lw_okq (⟨"TwoFacedTiles", "firstPossible", "(I)I"⟩, 6) := ⟨⟨by decide +kernel, by decide +kernel⟩, List.mem_of_getElem? (i := 17) (by decide +kernel), List.mem_of_getElem? (i := 447) (by decide +kernel), List.mem_of_getElem? (i := 448) (by decide +kernel)⟩
theorem lw_p10 : lw_okq (⟨"TwoFacedTiles", "colorAt", "(IIZ)I"⟩, 6) := ⟨⟨by decide +kernel, by decide +kernel⟩, List.mem_of_getElem? (i := 17) (by decide +kernel), List.mem_of_getElem? (i := 456) (by decide +kernel), List.mem_of_getElem? (i := 457) (by decide +kernel)⟩
theorem lw_p11 : lw_okq (⟨"TwoFacedTiles", "tileProperty", "(II)I"⟩, 6) := ⟨⟨by decide +kernel, by decide +kernel⟩, List.mem_of_getElem? (i := 17) (by decide +kernel), List.mem_of_getElem? (i := 466) (by decide +kernel), List.mem_of_getElem? (i := 467) (by decide +kernel)⟩
theorem lw_p12 : lw_okq (⟨"TwoFacedTiles", "requirePlacing", "(II)V"⟩, 6) := ⟨⟨by decide +kernel, by decide +kernel⟩, List.mem_of_getElem? (i := 17) (by decide +kernel), List.mem_of_getElem? (i := 482) (by decide +kernel), List.mem_of_getElem? (i := 483) (by decide +kernel)⟩
theorem lw_p13 : lw_okq (⟨"TwoFacedTiles", "reason", "(II)I"⟩, 6) := ⟨⟨by decide +kernel, by decide +kernel⟩, List.mem_of_getElem? (i := 17) (by decide +kernel), List.mem_of_getElem? (i := 490) (by decide +kernel), List.mem_of_getElem? (i := 491) (by decide +kernel)⟩
theorem lw_p14 : lw_okq (⟨"TwoFacedTiles$Search", "runTrial", "(I)V"⟩, 7) := ⟨⟨by decide +kernel, by decide +kernel⟩, List.mem_of_getElem? (i := 120) (by decide +kernel), List.mem_of_getElem? (i := 507) (by decide +kernel), List.mem_of_getElem? (i := 508) (by decide +kernel)⟩
theorem lw_p15 : lw_okq (⟨"TwoFacedTiles$Search", "fillFrom", "(I)V"⟩, 7) := ⟨⟨by decide +kernel, by decide +kernel⟩, List.mem_of_getElem? (i := 120) (by decide +kernel), List.mem_of_getElem? (i := 511) (by decide +kernel), List.mem_of_getElem? (i := 512) (by decide +kernel)⟩
def lw_privs_1 : List (MethodName × Nat) := [(⟨"java/lang/Throwable", "fillInStackTrace", "(I)Ljava/lang/Throwable;"⟩, 6), (⟨"TwoFacedTiles", "number", "(I)I"⟩, 6), (⟨"TwoFacedTiles$Board", "isAlike", "(III)Z"⟩, 8), (⟨"TwoFacedTiles", "misfits", "()I"⟩, 6), (⟨"TwoFacedTiles$Needs", "readNeighbor", "(III)V"⟩, 4), (⟨"TwoFacedTiles", "requireCell", "(I)V"⟩, 6), (⟨"TwoFacedTiles", "cellProperty", "(II)I"⟩, 6), (⟨"TwoFacedTiles", "possibleCount", "(I)I"⟩, 6), (⟨"TwoFacedTiles", "meetsNeeds", "(I)Z"⟩, 6), (⟨"TwoFacedTiles", "firstPossible", "(I)I"⟩, 6), (⟨"TwoFacedTiles", "colorAt", "(IIZ)I"⟩, 6), (⟨"TwoFacedTiles", "tileProperty", "(II)I"⟩, 6), (⟨"TwoFacedTiles", "requirePlacing", "(II)V"⟩, 6), (⟨"TwoFacedTiles", "reason", "(II)I"⟩, 6), (⟨"TwoFacedTiles$Search", "runTrial", "(I)V"⟩, 7), (⟨"TwoFacedTiles$Search", "fillFrom", "(I)V"⟩, 7)]
theorem lw_r1 : ∀ q ∈ lw_privs_1, lw_okq q := List.forall_mem_cons.mpr ⟨lw_p0, List.forall_mem_cons.mpr ⟨lw_p1, List.forall_mem_cons.mpr ⟨lw_p2, List.forall_mem_cons.mpr ⟨lw_p3, List.forall_mem_cons.mpr ⟨lw_p4, List.forall_mem_cons.mpr ⟨lw_p5, List.forall_mem_cons.mpr ⟨lw_p6, List.forall_mem_cons.mpr ⟨lw_p7, List.forall_mem_cons.mpr ⟨lw_p8, List.forall_mem_cons.mpr ⟨lw_p9, List.forall_mem_cons.mpr ⟨lw_p10, List.forall_mem_cons.mpr ⟨lw_p11, List.forall_mem_cons.mpr ⟨lw_p12, List.forall_mem_cons.mpr ⟨lw_p13, List.forall_mem_cons.mpr ⟨lw_p14, List.forall_mem_cons.mpr ⟨lw_p15, fun _ h => absurd h List.not_mem_nil⟩⟩⟩⟩⟩⟩⟩⟩⟩⟩⟩⟩⟩⟩⟩⟩
theorem lw_p16 : lw_okq (⟨"TwoFacedTiles$Search", "tryPlacing", "(II)V"⟩, 7) := ⟨⟨by decide +kernel, by decide +kernel⟩, List.mem_of_getElem? (i := 120) (by decide +kernel), List.mem_of_getElem? (i := 520) (by decide +kernel), List.mem_of_getElem? (i := 521) (by decide +kernel)⟩
theorem lw_p17 : lw_okq (⟨"TwoFacedTiles", "fittingPart", "()D"⟩, 6) := ⟨⟨by decide +kernel, by decide +kernel⟩, List.mem_of_getElem? (i := 17) (by decide +kernel), List.mem_of_getElem? (i := 540) (by decide +kernel), List.mem_of_getElem? (i := 541) (by decide +kernel)⟩
theorem lw_p18 : lw_okq (⟨"TwoFacedTiles", "bestStep", "()I"⟩, 6) := ⟨⟨by decide +kernel, by decide +kernel⟩, List.mem_of_getElem? (i := 17) (by decide +kernel), List.mem_of_getElem? (i := 548) (by decide +kernel), List.mem_of_getElem? (i := 549) (by decide +kernel)⟩
theorem lw_p19 : lw_okq (⟨"TwoFacedTiles$Board", "cutSide", "(IILTwoFacedTiles$Draws;)V"⟩, 8) := ⟨⟨by decide +kernel, by decide +kernel⟩, List.mem_of_getElem? (i := 25) (by decide +kernel), List.mem_of_getElem? (i := 582) (by decide +kernel), List.mem_of_getElem? (i := 583) (by decide +kernel)⟩
theorem lw_p20 : lw_okq (⟨"TwoFacedTiles$Board", "makeWays", "(I)V"⟩, 8) := ⟨⟨by decide +kernel, by decide +kernel⟩, List.mem_of_getElem? (i := 25) (by decide +kernel), List.mem_of_getElem? (i := 590) (by decide +kernel), List.mem_of_getElem? (i := 591) (by decide +kernel)⟩
theorem lw_p21 : lw_okq (⟨"TwoFacedTiles$Board", "swapTurnedOver", "(II)V"⟩, 8) := ⟨⟨by decide +kernel, by decide +kernel⟩, List.mem_of_getElem? (i := 25) (by decide +kernel), List.mem_of_getElem? (i := 642) (by decide +kernel), List.mem_of_getElem? (i := 643) (by decide +kernel)⟩
def lw_privs_2 : List (MethodName × Nat) := [(⟨"TwoFacedTiles$Search", "tryPlacing", "(II)V"⟩, 7), (⟨"TwoFacedTiles", "fittingPart", "()D"⟩, 6), (⟨"TwoFacedTiles", "bestStep", "()I"⟩, 6), (⟨"TwoFacedTiles$Board", "cutSide", "(IILTwoFacedTiles$Draws;)V"⟩, 8), (⟨"TwoFacedTiles$Board", "makeWays", "(I)V"⟩, 8), (⟨"TwoFacedTiles$Board", "swapTurnedOver", "(II)V"⟩, 8)]
theorem lw_r2 : ∀ q ∈ lw_privs_2, lw_okq q := List.forall_mem_cons.mpr ⟨lw_p16, List.forall_mem_cons.mpr ⟨lw_p17, List.forall_mem_cons.mpr ⟨lw_p18, List.forall_mem_cons.mpr ⟨lw_p19, List.forall_mem_cons.mpr ⟨lw_p20, List.forall_mem_cons.mpr ⟨lw_p21, fun _ h => absurd h List.not_mem_nil⟩⟩⟩⟩⟩⟩
def lw_privs : List (MethodName × Nat) := lw_privs_1 ++ (lw_privs_2)
def lw_tbl : List Cond := k2_sels lw_privs ++ tables_1
theorem lw_privs_ok : ∀ q ∈ lw_privs, lw_okq q := by
  show ∀ q ∈ lw_privs_1 ++ (lw_privs_2), lw_okq q
  exact List.forall_mem_append.mpr ⟨lw_r1, lw_r2⟩
/-- the streams that the claim lets the run draw from -/
abbrev lw_cs : List Choice := [Jvm.Choice.named "NaN.bits"]
theorem lw_bits : nanBits ∈ lw_cs := by first | decide | exact List.mem_cons_self | simp [lw_cs, nanBits]
end
section
/-! ===== BEGIN words of one list among another's, by their places ===== -/
theorem goodIn_r {big : List Cond} (ws : List Cond) (ps : List Nat) (hp : ws = ps.filterMap (fun i => big[i]?)) (h : ws.all goodWord = true) : GoodIn big ws := by
  intro w hw
  have h1 := List.all_eq_true.mp h w hw
  rw [hp] at hw
  obtain ⟨i, -, hi⟩ := List.mem_filterMap.mp hw
  have hm : w ∈ big := by first | exact List.mem_of_getElem? hi | exact List.getElem?_mem hi
  exact ⟨hm, good_of_word h1⟩
theorem goodIn_app {big a b : List Cond} (ha : GoodIn big a) (hb : GoodIn big b) : GoodIn big (a ++ b) := fun w h => (List.mem_append.mp h).elim (ha w) (hb w)
theorem goodIn_ca {big a b : List Cond} {c : Cond} (ha : GoodIn big (c :: a)) (hb : GoodIn big b) : GoodIn big (c :: (a ++ b)) := fun w h => (List.mem_cons.mp h).elim (fun e => ha w (List.mem_cons.mpr (Or.inl e))) (fun h => (List.mem_append.mp h).elim (fun h => ha w (List.mem_cons.mpr (Or.inr h))) (hb w))
theorem goodIn_sub {big ws : List Cond} (hm : ∀ w ∈ ws, w ∈ big) (h : ws.all goodWord = true) : GoodIn big ws := fun w hw => ⟨hm w hw, good_of_word (List.all_eq_true.mp h w hw)⟩
/-! ===== END ===== -/

/-! ===== BEGIN exceptions that leave a method, and their catching by the caller (launches without stack traces) ===== -/
section VXA
/-! The laws vx_back, vx_callV, vx_callS, vx_callSW, vx_throw0, vx_throwS follow proofs of the library, with one case more: JvmDerived/Free/Laws.lean (Back.of_free), Shelf42/LK1.lean (callV, callS), Shelf/KitTraced.lean (throwNew0V, throwNewS). -/
/-- where a method has thrown q: the class by its name, the cell, what was written, the world -/
def vx_T (XC : String → State → State → Prop) (st : State) (q : Addr) (t : State) (mc ms : Nat) (free : Addr → Prop) : Prop :=
  ∃ (E : String) (ce : Cell) (L : List Loc), XC E st t ∧ t.heap[q]? = some ce ∧ ce.vm = .none ∧ st.vm.findClass E = some ce.cls ∧ st.WarmedH t.vm ∧ st.sameButNew ({ t with vm := st.vm } : State) L mc ms ∧ ∀ z ∈ L, free z.base
def vx_Q (Qc : Array Value → State → Outcome → State → Prop) (XC : String → State → State → Prop) (mc ms : Nat) (free : Addr → Prop) : Array Value → State → Outcome → State → Prop := fun a st o t =>
  (Qc a st o t ∧ ∃ L, FrameEnd st o t L mc ms ∧ ∀ q ∈ L, free q.base) ∨ ∃ q, o = .threw q ∧ vx_T XC st q t mc ms free
/-- a callee that returns or throws -/
def vx_Met (l : Launch) (y : MethodName) (ws : List Cond) (rm : Room) (Pc : Array Value → State → Prop) (Qc : Array Value → State → Outcome → State → Prop) (XC : String → State → State → Prop) (mc ms : Nat) (free : Addr → Prop) : Prop :=
  MetFree l y (headSpec ws rm) Pc (fun _ _ _ _ _ => True) (vx_Q Qc XC mc ms free)
def vx_Post (XC : String → State → State → Prop) (mc ms : Nat) (free : Addr → Prop) : Pt → Array Value → Addr → Pt → Prop := fun A a q B =>
  ∃ (g : JFrame) (mk : MethodId) (t : State) (L : List Loc) (E : String) (ce : Cell), B.U.heap = t.heap ∧ B.U.vm = t.vm ∧ XC E (A.U.calling g mk a) t ∧ t.heap[q]? = some ce ∧ ce.vm = .none ∧ A.U.vm.findClass E = some ce.cls ∧ B.locs = A.locs ++ L ∧ (∀ z ∈ L, free z.base) ∧ B.cells = A.cells + mc ∧ B.slots = A.slots + ms
def vx_Back (l : Launch) (R : Room) (p : Program) (e : Env) (below : List Frame) (s : State) (sargs : Array Value) (y : MethodName) (len W9 : Nat)
    (Pre : Pt → Array Value → Prop) (Post : Pt → Array Value → Option Value → Pt → Prop) (PostX : Pt → Array Value → Addr → Pt → Prop) : Prop :=
  ∀ (m : MethodId) (meth : Method) (c : Code) (A : Pt) (g : JFrame) (ig : Instr) (mk : MethodId) (a : Array Value),
    Stand p l e R s m sargs below meth c A.U A.locs A.cells A.slots → g.method = m → g.locals.size = c.maxLocals → decode c.code g.pc = .ok (ig, len) →
    2 * g.monitorRoom + (g.stack.map fun v => v.category).sum ≤ W9 → A.U.methodNamed? y = some mk → Pre A a →
    (∃ (v : Option Value) (B : Pt), Stand p l e R s m sargs below meth c B.U B.locs B.cells B.slots ∧ Post A a v B ∧
      Steps p.tables e below (doInvoke e (A.U.setTop g) [] mk a).1 (B.U.setTop { g with pc := g.pc + len, stack := v.toList ++ g.stack })) ∨
    (∃ (q : Addr) (B : Pt), Stand p l e R s m sargs below meth c B.U B.locs B.cells B.slots ∧ PostX A a q B ∧
      Steps p.tables e below (doInvoke e (A.U.setTop g) [] mk a).1 ((B.U.setTop g).pushFrame (.throwing q)))
section Payer
variable {l : Launch} {R : Room} {p : Program} {e : Env} {below : List Frame} {s : State} {sargs : Array Value} {y : MethodName} {len W9 : Nat}
theorem vx_back {ws : List Cond} {rm : Room} {Pc : Array Value → State → Prop} {Qc : Array Value → State → Outcome → State → Prop} {XC : String → State → State → Prop} {mc ms : Nat} {free : Addr → Prop} {bytes : ByteArray} {maxL : Nat} {ret : Option FieldType}
    (hM : vx_Met l y ws rm Pc Qc XC mc ms free) (hblind : FrameBlind Pc) (hrc : rm.cells = mc) (hrs : rm.slots = ms)
    (hframes : rm.frames + 1 ≤ R.frames) (hlocals : W9 + (maxL + 11) + rm.locals ≤ R.locals)
    (hws : ∀ w ∈ ws, ∀ a' U, s.WarmedH U.vm → w.before a' U = true) (hcode : Cond.code y bytes maxL ret ∈ ws) (hinit : ∀ a' U, s.WarmedH U.vm → (Cond.initialized y.cls).before a' U = true) :
    vx_Back l R p e below s sargs y len W9 (PreOf R mc ms Pc) (PostOf Qc mc ms free) (vx_Post XC mc ms free) := by
  intro m meth c A g ig mk a X hg hsize hdg hW hn hp
  have h1 : (headSpec ws rm).pre.before a A.U = true := atoms_intro fun w hw => hws w hw _ _ X.warmed
  have h2 : (Cond.code y bytes maxL ret).before a A.U = true := hws _ hcode _ _ X.warmed
  have h3 : (Cond.initialized y.cls).before a A.U = true := hinit _ _ X.warmed
  have h4 : A.cells + (headSpec ws rm).room.cells ≤ R.cells := by rw [show (headSpec ws rm).room.cells = mc from hrc]; exact hp.1
  have h5 : A.slots + (headSpec ws rm).room.slots ≤ R.slots := by rw [show (headSpec ws rm).room.slots = ms from hrs]; exact hp.2.1
  have hPc : Pc a (A.U.calling g mk a) := hblind _ _ _ _ hp.2.2
  obtain ⟨U, Ls, c0, s0⟩ := A
  dsimp only [Pt.U, Pt.locs, Pt.cells, Pt.slots] at h1 h2 h3 h4 h5 X hn hPc ⊢
  obtain ⟨methY, cY, hmY, hcY, -, hlY, -, -, -, -⟩ := Cond.code_spec hn h2
  obtain ⟨kY, hkY, -⟩ := className_of_methodNamed hn
  have hinitY : kY.init = .initialized := Cond.initialized_spec (findClass_of_methodNamed hn) hkY h3
  have h : At U g.method c below := by rw [hg]; exact X.here
  have hlocals9 : W9 + (maxL + 11) + (headSpec ws rm).room.locals ≤ R.locals := hlocals
  have happ : (headSpec ws rm).appliesLoose y e.platform (U.calling g mk a) = true :=
    Spec.appliesLoose_calling (g := g) h hdg hn hkY hinitY
      (X.room_calling (g := g) (R' := (headSpec ws rm).room) hsize hmY hcY hframes (by rw [hlY]; omega) h4 h5) h1
  obtain ⟨mid, hmid⟩ := h.above
  have hfr : (U.setTop g).frames = (.java g :: mid) ++ below := by rw [State.frames_setTop' g h.top, hmid]; rfl
  obtain ⟨o, s₂, hsteps, -, hend, hq⟩ := Steps.callFree hM p X.admits X.cas X.clock (acts := []) hfr happ hPc trivial
  have hq' : vx_Q Qc XC mc ms free a (U.calling g mk a) o s₂ := hq
  rw [State.frames_setTop' g h.top] at hend
  obtain ⟨g₀, hg0⟩ := Option.isSome_iff_exists.mp h.top
  obtain ⟨r, hr⟩ := State.topJava?_eq_some.mp hg0
  have hr' : (({ U with heap := s₂.heap, slotsUsed := s₂.slotsUsed } : State).setVm s₂.vm).frames = .java g₀ :: r := hr
  rcases hq' with ⟨hqc, L, hfe, hL⟩ | ⟨q, rfl, E, ce, L, hx, hce, hcv, hcl, hW₂, hsm, hL⟩
  · obtain ⟨⟨v, rfl⟩, hW₂, e2, q2, q3, q4, q5, q6⟩ := id hfe
    have e3 : s₂ = ({ (U.calling g mk a).setFrames s₂.frames with heap := s₂.heap, slotsUsed := s₂.slotsUsed } : State).setVm s₂.vm := by
      have : s₂ = ({ s₂ with vm := (U.calling g mk a).vm } : State).setVm s₂.vm := rfl
      rw [e2] at this
      exact this
    obtain ⟨c₂, i₂, len₂, hc₂, hd₂, hf₂⟩ := hend
    have hW' : U.WarmedH s₂.vm := hW₂
    have hcc : c₂ = c := by
      have h1 : s₂.code? g.method = U.code? g.method := by
        rw [State.code?_eq, State.code?_eq, hW'.alike.method?]
      exact Option.some.inj (hc₂.symm.trans (h1.trans h.code))
    subst hcc
    have hlen : len₂ = len := by rw [hdg] at hd₂; cases hd₂; rfl
    subst hlen
    have hs₂ : s₂ = (({ U with heap := s₂.heap, slotsUsed := s₂.slotsUsed } : State).setVm s₂.vm).setTop { g with pc := g.pc + len₂, stack := v.toList ++ g.stack } := by
      refine e3.trans ?_
      rw [hf₂, State.calling_eq h.top, State.setFrames_setFrames, State.setTop_of_frames _ hr', hr]
      rfl
    have hsame : U.sameButNew ({ U with heap := s₂.heap, slotsUsed := s₂.slotsUsed } : State) L mc ms := by
      refine ⟨?_, q2, q3, q4, q5, q6⟩
      obtain ⟨t, ht, -⟩ := State.frames_cons hr
      show ({ U with heap := s₂.heap, slotsUsed := s₂.slotsUsed } : State) = { U.setFrames U.frames with heap := s₂.heap, slotsUsed := s₂.slotsUsed }
      rw [State.setFrames_self ht]
    subst hg
    refine Or.inl ⟨v, ⟨(({ U with heap := s₂.heap, slotsUsed := s₂.slotsUsed } : State).setVm s₂.vm), Ls ++ L, c0 + mc, s0 + ms⟩,
      ⟨X.admits, X.cas, X.clock, X.frames, X.room, X.hears, X.method, X.code, (X.here.setHeapUsed s₂.heap s₂.slotsUsed).setVm hW'.alike, X.tail, State.WarmedH.trans X.warmed hW', X.limits, X.bytes, X.same.trans (hsame.setVm s.vm)⟩,
      ⟨g, mk, s₂, L, rfl, rfl, hqc, rfl, hL, rfl, rfl⟩, ?_⟩
    show Steps p.tables e below _ ((({ U with heap := s₂.heap, slotsUsed := s₂.slotsUsed } : State).setVm s₂.vm).setTop { g with pc := g.pc + len₂, stack := v.toList ++ g.stack })
    rw [← hs₂]
    exact hsteps
  · obtain ⟨e2, q2, q3, q4, q5, q6⟩ := id hsm
    have e3 : s₂ = ({ (U.calling g mk a).setFrames s₂.frames with heap := s₂.heap, slotsUsed := s₂.slotsUsed } : State).setVm s₂.vm := by
      have : s₂ = ({ s₂ with vm := (U.calling g mk a).vm } : State).setVm s₂.vm := rfl
      rw [e2] at this
      exact this
    have hf₂ : s₂.frames = .throwing q :: .java g :: U.frames.tail := hend
    have hW' : U.WarmedH s₂.vm := hW₂
    have hs₂ : s₂ = ((({ U with heap := s₂.heap, slotsUsed := s₂.slotsUsed } : State).setVm s₂.vm).setTop g).pushFrame (.throwing q) := by
      refine e3.trans ?_
      rw [hf₂, State.calling_eq h.top, State.setFrames_setFrames, State.pushFrame, State.frames_setTop _ hr', State.setTop_of_frames _ hr', State.setFrames_setFrames, hr]
      rfl
    have hsame : U.sameButNew ({ U with heap := s₂.heap, slotsUsed := s₂.slotsUsed } : State) L mc ms := by
      refine ⟨?_, q2, q3, q4, q5, q6⟩
      obtain ⟨t, ht, -⟩ := State.frames_cons hr
      show ({ U with heap := s₂.heap, slotsUsed := s₂.slotsUsed } : State) = { U.setFrames U.frames with heap := s₂.heap, slotsUsed := s₂.slotsUsed }
      rw [State.setFrames_self ht]
    subst hg
    refine Or.inr ⟨q, ⟨(({ U with heap := s₂.heap, slotsUsed := s₂.slotsUsed } : State).setVm s₂.vm), Ls ++ L, c0 + mc, s0 + ms⟩,
      ⟨X.admits, X.cas, X.clock, X.frames, X.room, X.hears, X.method, X.code, (X.here.setHeapUsed s₂.heap s₂.slotsUsed).setVm hW'.alike, X.tail, State.WarmedH.trans X.warmed hW', X.limits, X.bytes, X.same.trans (hsame.setVm s.vm)⟩,
      ⟨g, mk, s₂, L, E, ce, rfl, rfl, hx, hce, hcv, hcl, rfl, hL, rfl, rfl⟩, ?_⟩
    show Steps p.tables e below _ (((({ U with heap := s₂.heap, slotsUsed := s₂.slotsUsed } : State).setVm s₂.vm).setTop g).pushFrame (.throwing q))
    rw [← hs₂]
    exact hsteps
end Payer
section Calls
variable {p : Program} {l : Launch} {e : Env} {R : Room} {s : State} {m : MethodId} {args : Array Value} {below : List Frame} {meth : Method} {c : Code} {T : State} {locs : List Loc} {cells slots : Nat}
theorem vx_callV (X : Stand p l e R s m args below meth c T locs cells slots) (hexec : p.tables.exec = Jvm.exec) {own C : String} {index : Nat} {y : MethodName} {bytes : ByteArray} {maxL : Nat} {ret : Option FieldType}
    (hown : s.vm.findClass own = some m.cls) (hlink : (Cond.methodLink own index y).before args s = true) (hinst : (Cond.instanceMethod y).before args s = true) (hsel : (Cond.selects C y y).before args s = true)
    (hcode : (Cond.code y bytes maxL ret).before args s = true) (hy : y.cls ≠ "java/lang/invoke/MethodHandle" ∧ y.cls ≠ "java/lang/invoke/VarHandle")
    {W9 : Nat} {Pre : Pt → Array Value → Prop} {Post : Pt → Array Value → Option Value → Pt → Prop} {PostX : Pt → Array Value → Addr → Pt → Prop} (hK : vx_Back l R p e below s args y 3 W9 Pre Post PostX)
    {b : Addr} {cellB : Cell} (hcell : T.heap[b]? = some cellB) (hobj : cellB.vm.isStatics = false) (hcls : s.vm.findClass C = some cellB.cls)
    {g : JFrame} (hg : g.method = m) (hsize : g.locals.size = c.maxLocals) {argsL rest : List Value} (hlen : ∀ sig, parseMethodDescriptor y.desc = some sig → argsL.length = sig.parameters.length)
    (hstack : g.stack = argsL.reverse ++ .ref b :: rest) (hW : 2 * g.monitorRoom + (rest.map fun v => v.category).sum ≤ W9) (hdg : decode c.code g.pc = .ok (.invokevirtual index, 3))
    (hpre : ∀ vm₁, s.WarmedH vm₁ → Pre ⟨T.setVm vm₁, locs, cells, slots⟩ (Value.ref b :: argsL).toArray) :
    (∃ (v : Option Value) (vm₁ : Vm) (B : Pt), s.WarmedH vm₁ ∧ Stand p l e R s m args below meth c B.U B.locs B.cells B.slots ∧ Post ⟨T.setVm vm₁, locs, cells, slots⟩ (Value.ref b :: argsL).toArray v B ∧
      ∀ target, Steps p.tables e below (B.U.setTop { g with pc := g.pc + 3, stack := v.toList ++ rest }) target → Steps p.tables e below (T.setTop g) target) ∨
    (∃ (q : Addr) (vm₁ : Vm) (B : Pt), s.WarmedH vm₁ ∧ Stand p l e R s m args below meth c B.U B.locs B.cells B.slots ∧ PostX ⟨T.setVm vm₁, locs, cells, slots⟩ (Value.ref b :: argsL).toArray q B ∧
      Steps p.tables e below (T.setTop g) ((B.U.setTop { g with stack := rest }).pushFrame (.throwing q))) := by
  obtain ⟨mk, methM, hnamed, hmethM, hstM, habM⟩ := Cond.instanceMethod_spec hinst
  obtain ⟨methM', cM, hmethM', -, -, -, -, -, -, hsigM⟩ := Cond.code_spec hnamed hcode
  cases hmethM.symm.trans hmethM'
  obtain ⟨c2, r2, m2, q1, q2, q3, q4, kP, hkP, hkPi⟩ := Cond.selects_spec hsel
  cases hcls.symm.trans q1
  cases (State.methodFound?_of_named hnamed hy).symm.trans q2
  cases hnamed.symm.trans q3
  have hselP : selectMethod e.platform s.vm cellB.cls mk = .method mk := by rw [Launch.admits_selectMethod X.admits]; exact q4
  obtain ⟨vm₁, X₁, hstep₁⟩ := X.invokevirtual hexec hown hlink hnamed hmethM hstM hkP hkPi hy (a := b) (cell := cellB) hcell
    (fun z h => by rw [h] at hobj; cases hobj) hselP hmethM habM hkP hkPi (g := g) hg (argsL := argsL) (rest := rest) (hlen _ hsigM) hstack hdg
  rcases hK m meth c ⟨T.setVm vm₁, locs, cells, slots⟩ { g with stack := rest } (.invokevirtual index) mk (Value.ref b :: argsL).toArray X₁ hg hsize hdg hW (X₁.named hnamed) (hpre vm₁ X₁.warmed) with ⟨v, B, X', hpost, hsteps⟩ | ⟨q, B, X', hpost, hsteps⟩
  · exact Or.inl ⟨v, vm₁, B, X₁.warmed, X', hpost, fun target h => hstep₁ _ fun acts => by rw [doInvoke_state]; exact hsteps.trans h⟩
  · exact Or.inr ⟨q, vm₁, B, X₁.warmed, X', hpost, hstep₁ _ fun acts => by rw [doInvoke_state]; exact hsteps⟩
theorem vx_callS (X : Stand p l e R s m args below meth c T locs cells slots) (hexec : p.tables.exec = Jvm.exec) {own : String} {index : Nat} {y : MethodName} {bytes : ByteArray} {maxL : Nat} {ret : Option FieldType}
    (hown : s.vm.findClass own = some m.cls) (hlink : (Cond.methodLink own index y).before args s = true) (hstat : (Cond.static y).before args s = true) (hinit : (Cond.initialized y.cls).before args s = true)
    (hcode : (Cond.code y bytes maxL ret).before args s = true) (hy : y.cls ≠ "java/lang/invoke/MethodHandle" ∧ y.cls ≠ "java/lang/invoke/VarHandle")
    {W9 : Nat} {Pre : Pt → Array Value → Prop} {Post : Pt → Array Value → Option Value → Pt → Prop} {PostX : Pt → Array Value → Addr → Pt → Prop} (hK : vx_Back l R p e below s args y 3 W9 Pre Post PostX)
    {g : JFrame} (hg : g.method = m) (hsize : g.locals.size = c.maxLocals) {argsL rest : List Value} (hlen : ∀ sig, parseMethodDescriptor y.desc = some sig → argsL.length = sig.parameters.length)
    (hstack : g.stack = argsL.reverse ++ rest) (hW : 2 * g.monitorRoom + (rest.map fun v => v.category).sum ≤ W9) (hdg : decode c.code g.pc = .ok (.invokestatic index, 3))
    (hpre : ∀ vm₁, s.WarmedH vm₁ → Pre ⟨T.setVm vm₁, locs, cells, slots⟩ argsL.toArray) :
    (∃ (v : Option Value) (vm₁ : Vm) (B : Pt), s.WarmedH vm₁ ∧ Stand p l e R s m args below meth c B.U B.locs B.cells B.slots ∧ Post ⟨T.setVm vm₁, locs, cells, slots⟩ argsL.toArray v B ∧
      ∀ target, Steps p.tables e below (B.U.setTop { g with pc := g.pc + 3, stack := v.toList ++ rest }) target → Steps p.tables e below (T.setTop g) target) ∨
    (∃ (q : Addr) (vm₁ : Vm) (B : Pt), s.WarmedH vm₁ ∧ Stand p l e R s m args below meth c B.U B.locs B.cells B.slots ∧ PostX ⟨T.setVm vm₁, locs, cells, slots⟩ argsL.toArray q B ∧
      Steps p.tables e below (T.setTop g) ((B.U.setTop { g with stack := rest }).pushFrame (.throwing q))) := by
  obtain ⟨mk, hnamed⟩ := Cond.code_named hcode
  obtain ⟨methM, cM, hmethM, -, -, -, -, -, -, hsigM⟩ := Cond.code_spec hnamed hcode
  have hstatic : methM.isStatic = true := Cond.static_spec hnamed hmethM hstat
  obtain ⟨kP, hkP, -⟩ := className_of_methodNamed hnamed
  have hinitP : kP.init = .initialized := Cond.initialized_spec (findClass_of_methodNamed hnamed) hkP hinit
  obtain ⟨vm₁, X₁, hstep₁⟩ := X.invokestatic hexec hown hlink hnamed hmethM hstatic hkP hinitP hy (g := g) hg (argsL := argsL) (rest := rest) (hlen _ hsigM) hstack hdg
  rcases hK m meth c ⟨T.setVm vm₁, locs, cells, slots⟩ { g with stack := rest } (.invokestatic index) mk argsL.toArray X₁ hg hsize hdg hW (X₁.named hnamed) (hpre vm₁ X₁.warmed) with ⟨v, B, X', hpost, hsteps⟩ | ⟨q, B, X', hpost, hsteps⟩
  · exact Or.inl ⟨v, vm₁, B, X₁.warmed, X', hpost, fun target h => hstep₁ _ fun acts => by rw [doInvoke_state]; exact hsteps.trans h⟩
  · exact Or.inr ⟨q, vm₁, B, X₁.warmed, X', hpost, hstep₁ _ fun acts => by rw [doInvoke_state]; exact hsteps⟩
end Calls
theorem vx_cls {s : State} {T : State} {vm₁ : Vm} {E : String} {k : ClassId} (hW : s.WarmedH vm₁) (h : (T.setVm vm₁).vm.findClass E = some k) : s.vm.findClass E = some k := by
  have h1 : vm₁.findClass E = some k := h
  rw [hW.alike.findClass] at h1
  exact h1
/-- the method's frame g, with q thrown over it -/
def vx_W (p : Program) (l : Launch) (e : Env) (R : Room) (s : State) (m : MethodId) (args : Array Value) (below : List Frame) (meth : Method) (c : Code) (H : Heap) (locs : List Loc) (cells slots : Nat) (Q : State → Prop) (g : JFrame) (q : Addr) : Prop :=
  ∀ T : State, T.heap = H → Stand p l e R s m args below meth c T locs cells slots → ∃ t, Steps p.tables e below ((T.setTop g).pushFrame (.throwing q)) t ∧ Q t
def vx_Run (p : Program) (l : Launch) (e : Env) (R : Room) (s : State) (m : MethodId) (args : Array Value) (below : List Frame) (meth : Method) (c : Code) (H : Heap) (locs : List Loc) (cells slots mc ms : Nat) (g : JFrame) (rest : List Value) (Qa : State → Outcome → State → Prop) (XC : String → State → State → Prop) (free : Addr → Prop) : Prop :=
  ∀ T : State, T.heap = H → Stand p l e R s m args below meth c T locs cells slots →
    (∃ (v : Option Value) (st₀ t T' : State) (L : List Loc), st₀.heap = H ∧ Stand p l e R s m args below meth c T' (locs ++ L) (cells + mc) (slots + ms) ∧ (∀ q ∈ L, free q.base) ∧ T'.heap = t.heap ∧ T'.vm = t.vm ∧ Qa st₀ (.returned v) t ∧
      Goes p e below T g T' { g with pc := g.pc + 3, stack := v.toList ++ rest }) ∨
    (∃ (q : Addr) (st₀ t T' : State) (L : List Loc) (E : String) (ce : Cell), st₀.heap = H ∧ Stand p l e R s m args below meth c T' (locs ++ L) (cells + mc) (slots + ms) ∧ (∀ z ∈ L, free z.base) ∧ T'.heap = t.heap ∧ T'.vm = t.vm ∧ XC E st₀ t ∧ t.heap[q]? = some ce ∧ ce.vm = .none ∧ s.vm.findClass E = some ce.cls ∧
      Steps p.tables e below (T.setTop g) ((T'.setTop { g with stack := rest }).pushFrame (.throwing q)))
def vx_X {S : Type} (px : S → Prop) (B : String → S → State → Prop) (A : Nat → Prop) : String → State → State → Prop := fun E st t => ∃ u : S, px u ∧ B E u t ∧ va_F A st t
section Runs
variable {p : Program} {l : Launch} {e : Env} {R : Room} {s : State} {m : MethodId} {args : Array Value} {below : List Frame} {meth : Method} {c : Code} {H : Heap} {locs : List Loc} {cells slots : Nat}
variable {y : MethodName} {bytes cc : ByteArray} {maxL nL mc ms n index : Nat} {ret : Option FieldType} {ws : List Cond} {rm : Room} {Pc : Array Value → State → Prop} {Qc : Array Value → State → Outcome → State → Prop} {XC : String → State → State → Prop} {free : Addr → Prop} {Ts : List Cond} {own C : String} {b : Addr} {As rest : List Value} {g : JFrame}
theorem vx_callBack (cb : CallB R s args own index y bytes maxL ret ws rm mc ms n) (hM : vx_Met l y ws rm Pc Qc XC mc ms free) (hbl : FrameBlind Pc) : vx_Back l R p e below s args y 3 8 (PreOf R mc ms Pc) (PostOf Qc mc ms free) (vx_Post XC mc ms free) := by
  obtain ⟨hrc, hrs, hfr, hlo, hws, hcw, -, hini, -⟩ := cb
  exact vx_back (bytes := bytes) (maxL := maxL) (ret := ret) hM hbl hrc hrs hfr hlo hws hcw (fun a' U hW => word_at hW (Or.inl (by first | rfl | simp [Cond.onTables, Cond.keeps, Cond.steady])) hini)
theorem vx_runV (S : CallFix p m c cc nL s args Ts own) (hM : vx_Met l y ws rm Pc Qc XC mc ms free) (cw : CallW R s args own C index y bytes maxL ret ws rm mc ms n) (hp : PreV s H C b Pc As)
    (hg : g.method = m) (hn : As.length = n) (hsize : g.locals.size = nL) (hstack : g.stack = As.reverse ++ .ref b :: rest) (hW : 2 * g.monitorRoom + (rest.map fun v => v.category).sum ≤ 8) (hdg : decode cc g.pc = .ok (.invokevirtual index, 3)) (hf : cells + mc ≤ R.cells ∧ slots + ms ≤ R.slots) :
    vx_Run p l e R s m args below meth c H locs cells slots mc ms g rest (Qc (Value.ref b :: As).toArray) XC free := by
  have hK : vx_Back l R p e below s args y 3 8 (PreOf R mc ms Pc) (PostOf Qc mc ms free) (vx_Post XC mc ms free) := vx_callBack cw.1 hM hp.1
  obtain ⟨⟨-, -, -, -, -, -, hcode, -, hy, hlen, hl⟩, hin, hse⟩ := cw
  obtain ⟨hx, hb, hml, ho, -⟩ := S
  obtain ⟨-, ⟨cellB, hcB, hoB, hclB⟩, hPc⟩ := hp
  intro T hT X
  rcases vx_callV X hx (C := C) (bytes := bytes) (maxL := maxL) (ret := ret) ho hl hin hse hcode hy hK (by rw [hT]; exact hcB) hoB hclB hg (hsize.trans hml.symm) (argsL := As) (rest := rest) (fun sig h => hn.trans (hlen sig h)) hstack hW (by rw [hb]; exact hdg)
    (fun vm₁ hW₁ => ⟨hf.1, hf.2, hPc (T.setVm vm₁) hT hW₁⟩) with ⟨v, vm₁, ⟨U', l2, c2, s2⟩, hW₁, X', ⟨g', mk, t, L, e1, e2, hq, h1, hL, h2, h3⟩, st⟩ | ⟨q, vm₁, ⟨U', l2, c2, s2⟩, hW₁, X', ⟨g', mk, t, L, E, ce, e1, e2, hq, hce, hcv, hcl, h1, hL, h2, h3⟩, st⟩
  · dsimp only [Pt.U, Pt.locs, Pt.cells, Pt.slots] at X' e1 e2 h1 h2 h3 st
    subst h1; subst h2; subst h3
    exact Or.inl ⟨v, (T.setVm vm₁).calling g' mk (Value.ref b :: As).toArray, t, U', L, hT, X', hL, e1, e2, hq, st⟩
  · dsimp only [Pt.U, Pt.locs, Pt.cells, Pt.slots] at X' e1 e2 h1 h2 h3 st hcl
    subst h1; subst h2; subst h3
    exact Or.inr ⟨q, (T.setVm vm₁).calling g' mk (Value.ref b :: As).toArray, t, U', L, E, ce, hT, X', hL, e1, e2, hq, hce, hcv, vx_cls hW₁ hcl, st⟩
theorem vx_runS (S : CallFix p m c cc nL s args Ts own) (hM : vx_Met l y ws rm Pc Qc XC mc ms free) (cw : CallB R s args own index y bytes maxL ret ws rm mc ms n ∧ (Cond.static y).before args s = true) (hp : PreS s H Pc As)
    (hg : g.method = m) (hn : As.length = n) (hsize : g.locals.size = nL) (hstack : g.stack = As.reverse ++ rest) (hW : 2 * g.monitorRoom + (rest.map fun v => v.category).sum ≤ 8) (hdg : decode cc g.pc = .ok (.invokestatic index, 3)) (hf : cells + mc ≤ R.cells ∧ slots + ms ≤ R.slots) :
    vx_Run p l e R s m args below meth c H locs cells slots mc ms g rest (Qc As.toArray) XC free := by
  have hK : vx_Back l R p e below s args y 3 8 (PreOf R mc ms Pc) (PostOf Qc mc ms free) (vx_Post XC mc ms free) := vx_callBack cw.1 hM hp.1
  obtain ⟨⟨-, -, -, -, -, -, hcode, hini, hy, hlen, hl⟩, hstt⟩ := cw
  obtain ⟨hx, hb, hml, ho, -⟩ := S
  intro T hT X
  rcases vx_callS X hx (bytes := bytes) (maxL := maxL) (ret := ret) ho hl hstt hini hcode hy hK hg (hsize.trans hml.symm) (argsL := As) (rest := rest) (fun sig h => hn.trans (hlen sig h)) hstack hW (by rw [hb]; exact hdg)
    (fun vm₁ hW₁ => ⟨hf.1, hf.2, hp.2 (T.setVm vm₁) hT hW₁⟩) with ⟨v, vm₁, ⟨U', l2, c2, s2⟩, hW₁, X', ⟨g', mk, t, L, e1, e2, hq, h1, hL, h2, h3⟩, st⟩ | ⟨q, vm₁, ⟨U', l2, c2, s2⟩, hW₁, X', ⟨g', mk, t, L, E, ce, e1, e2, hq, hce, hcv, hcl, h1, hL, h2, h3⟩, st⟩
  · dsimp only [Pt.U, Pt.locs, Pt.cells, Pt.slots] at X' e1 e2 h1 h2 h3 st
    subst h1; subst h2; subst h3
    exact Or.inl ⟨v, (T.setVm vm₁).calling g' mk As.toArray, t, U', L, hT, X', hL, e1, e2, hq, st⟩
  · dsimp only [Pt.U, Pt.locs, Pt.cells, Pt.slots] at X' e1 e2 h1 h2 h3 st hcl
    subst h1; subst h2; subst h3
    exact Or.inr ⟨q, (T.setVm vm₁).calling g' mk As.toArray, t, U', L, E, ce, hT, X', hL, e1, e2, hq, hce, hcv, vx_cls hW₁ hcl, st⟩
end Runs
section Rows
variable {p : Program} {l : Launch} {e : Env} {R : Room} {s : State} {m : MethodId} {args : Array Value} {below : List Frame} {meth : Method} {c : Code} {H : Heap} {locs : List Loc} {cells slots : Nat} {Q : State → Prop}
variable {mc ms : Nat} {free : Addr → Prop} {A0 A1 : Nat → Prop} {H0 : Heap} {a : Array Value} {pc : Nat} {ls : Array Slot} {st0 rest : List Value}
theorem vx_keep {st₀ t T' : State} {L : List Loc} (h0 : st₀.heap = H) (e1 : T'.heap = t.heap) (hS : va_S A0 H0 H locs) (hA : ∀ q, q < H.size → A1 q → A0 q) (hf : ∀ q, free q → A0 q) (hL : ∀ q ∈ L, free q.base) (hF : va_F A1 st₀ t) :
    H.size ≤ T'.heap.size ∧ (∀ q : Nat, q < H.size → ¬ A1 q → T'.heap[q]? = H[q]?) ∧ va_S A0 H0 T'.heap (locs ++ L) := by
  obtain ⟨hz, hk⟩ := hF
  rw [h0] at hz hk
  exact ⟨by rw [e1]; exact hz, fun q h1 h2 => by rw [e1]; exact hk q h1 h2,
    ⟨Nat.le_trans hS.1 (by rw [e1]; exact hz), fun q h1 h2 => by rw [e1, hk q (Nat.lt_of_lt_of_le h1 hS.1) (fun z => h2 (hA q (Nat.lt_of_lt_of_le h1 hS.1) z))]; exact hS.2.1 q h1 h2, fun q hq => by
      rcases List.mem_append.mp hq with h | h
      · exact hS.2.2 q h
      · exact hf _ (hL q h)⟩⟩
theorem vx_calli {S SX : Type} {post : Int32 → S → Prop} {px : SX → Prop} {B : S → State → Prop} {BX : String → SX → State → Prop} {AX : Nat → Prop} (hr : vx_Run p l e R s m args below meth c H locs cells slots mc ms (F0 m pc ls st0) rest (va_Qi post B A1 a) (vx_X px BX AX) free) (hS : va_S A0 H0 H locs) (hA : ∀ q, q < H.size → A1 q → A0 q) (hf : ∀ q, free q → A0 q) (hAX : ∀ q, q < H.size → AX q → A0 q)
    (kx : ∀ (E : String) (ce : Cell) (q9 : Addr) (u : SX) (t : State) (H1 : Heap) (locs1 : List Loc), t.heap = H1 → s.vm.Alike t.vm → px u → BX E u t → H.size ≤ H1.size → (∀ q : Nat, q < H.size → ¬ AX q → H1[q]? = H[q]?) → va_S A0 H0 H1 locs1 → H1[q9]? = some ce → ce.vm = .none → s.vm.findClass E = some ce.cls → vx_W p l e R s m args below meth c H1 locs1 (cells + mc) (slots + ms) Q (F0 m pc ls rest) q9)
    (kk : ∀ (r : Int32) (u : S) (t : State) (H1 : Heap) (locs1 : List Loc), t.heap = H1 → s.vm.Alike t.vm → post r u → B u t → H.size ≤ H1.size → (∀ q : Nat, q < H.size → ¬ A1 q → H1[q]? = H[q]?) → va_S A0 H0 H1 locs1 → W p l e R s m args below meth c H1 locs1 (cells + mc) (slots + ms) Q (F0 m (pc + 3) ls (.int r :: rest))) : W p l e R s m args below meth c H locs cells slots Q (F0 m pc ls st0) := by
  intro T hT X
  rcases hr T hT X with ⟨v, st₀, t, T', L, h0, X', hL, e1, e2, ⟨⟨r, u, hv, hp, hb⟩, hF⟩, st⟩ | ⟨q, st₀, t, T', L, E, ce, h0, X', hL, e1, e2, ⟨u, hp, hb, hF⟩, hce, hcv, hcl, st⟩
  · cases hv
    obtain ⟨k1, k2, k3⟩ := vx_keep h0 e1 hS hA hf hL hF
    obtain ⟨t2, a1, b1⟩ := kk r u t T'.heap (locs ++ L) e1.symm (by rw [← e2]; exact X'.warmed.alike) hp hb k1 k2 k3 T' rfl X'
    exact ⟨t2, st t2 a1, b1⟩
  · obtain ⟨k1, k2, k3⟩ := vx_keep h0 e1 hS hAX hf hL hF
    obtain ⟨t2, a1, b1⟩ := kx E ce q u t T'.heap (locs ++ L) e1.symm (by rw [← e2]; exact X'.warmed.alike) hp hb k1 k2 k3 (by rw [e1]; exact hce) hcv hcl T' rfl X'
    exact ⟨t2, st.trans a1, b1⟩
theorem vx_calll {S SX : Type} {post : Int64 → S → Prop} {px : SX → Prop} {B : S → State → Prop} {BX : String → SX → State → Prop} {AX : Nat → Prop} (hr : vx_Run p l e R s m args below meth c H locs cells slots mc ms (F0 m pc ls st0) rest (va_Ql post B A1 a) (vx_X px BX AX) free) (hS : va_S A0 H0 H locs) (hA : ∀ q, q < H.size → A1 q → A0 q) (hf : ∀ q, free q → A0 q) (hAX : ∀ q, q < H.size → AX q → A0 q)
    (kx : ∀ (E : String) (ce : Cell) (q9 : Addr) (u : SX) (t : State) (H1 : Heap) (locs1 : List Loc), t.heap = H1 → s.vm.Alike t.vm → px u → BX E u t → H.size ≤ H1.size → (∀ q : Nat, q < H.size → ¬ AX q → H1[q]? = H[q]?) → va_S A0 H0 H1 locs1 → H1[q9]? = some ce → ce.vm = .none → s.vm.findClass E = some ce.cls → vx_W p l e R s m args below meth c H1 locs1 (cells + mc) (slots + ms) Q (F0 m pc ls rest) q9)
    (kk : ∀ (r : Int64) (u : S) (t : State) (H1 : Heap) (locs1 : List Loc), t.heap = H1 → s.vm.Alike t.vm → post r u → B u t → H.size ≤ H1.size → (∀ q : Nat, q < H.size → ¬ A1 q → H1[q]? = H[q]?) → va_S A0 H0 H1 locs1 → W p l e R s m args below meth c H1 locs1 (cells + mc) (slots + ms) Q (F0 m (pc + 3) ls (.long r :: rest))) : W p l e R s m args below meth c H locs cells slots Q (F0 m pc ls st0) := by
  intro T hT X
  rcases hr T hT X with ⟨v, st₀, t, T', L, h0, X', hL, e1, e2, ⟨⟨r, u, hv, hp, hb⟩, hF⟩, st⟩ | ⟨q, st₀, t, T', L, E, ce, h0, X', hL, e1, e2, ⟨u, hp, hb, hF⟩, hce, hcv, hcl, st⟩
  · cases hv
    obtain ⟨k1, k2, k3⟩ := vx_keep h0 e1 hS hA hf hL hF
    obtain ⟨t2, a1, b1⟩ := kk r u t T'.heap (locs ++ L) e1.symm (by rw [← e2]; exact X'.warmed.alike) hp hb k1 k2 k3 T' rfl X'
    exact ⟨t2, st t2 a1, b1⟩
  · obtain ⟨k1, k2, k3⟩ := vx_keep h0 e1 hS hAX hf hL hF
    obtain ⟨t2, a1, b1⟩ := kx E ce q u t T'.heap (locs ++ L) e1.symm (by rw [← e2]; exact X'.warmed.alike) hp hb k1 k2 k3 (by rw [e1]; exact hce) hcv hcl T' rfl X'
    exact ⟨t2, st.trans a1, b1⟩
theorem vx_callf {S SX : Type} {post : UInt32 → S → Prop} {px : SX → Prop} {B : S → State → Prop} {BX : String → SX → State → Prop} {AX : Nat → Prop} (hr : vx_Run p l e R s m args below meth c H locs cells slots mc ms (F0 m pc ls st0) rest (va_Qf post B A1 a) (vx_X px BX AX) free) (hS : va_S A0 H0 H locs) (hA : ∀ q, q < H.size → A1 q → A0 q) (hf : ∀ q, free q → A0 q) (hAX : ∀ q, q < H.size → AX q → A0 q)
    (kx : ∀ (E : String) (ce : Cell) (q9 : Addr) (u : SX) (t : State) (H1 : Heap) (locs1 : List Loc), t.heap = H1 → s.vm.Alike t.vm → px u → BX E u t → H.size ≤ H1.size → (∀ q : Nat, q < H.size → ¬ AX q → H1[q]? = H[q]?) → va_S A0 H0 H1 locs1 → H1[q9]? = some ce → ce.vm = .none → s.vm.findClass E = some ce.cls → vx_W p l e R s m args below meth c H1 locs1 (cells + mc) (slots + ms) Q (F0 m pc ls rest) q9)
    (kk : ∀ (r : UInt32) (u : S) (t : State) (H1 : Heap) (locs1 : List Loc), t.heap = H1 → s.vm.Alike t.vm → post r u → B u t → H.size ≤ H1.size → (∀ q : Nat, q < H.size → ¬ A1 q → H1[q]? = H[q]?) → va_S A0 H0 H1 locs1 → W p l e R s m args below meth c H1 locs1 (cells + mc) (slots + ms) Q (F0 m (pc + 3) ls (.float r :: rest))) : W p l e R s m args below meth c H locs cells slots Q (F0 m pc ls st0) := by
  intro T hT X
  rcases hr T hT X with ⟨v, st₀, t, T', L, h0, X', hL, e1, e2, ⟨⟨r, u, hv, hp, hb⟩, hF⟩, st⟩ | ⟨q, st₀, t, T', L, E, ce, h0, X', hL, e1, e2, ⟨u, hp, hb, hF⟩, hce, hcv, hcl, st⟩
  · cases hv
    obtain ⟨k1, k2, k3⟩ := vx_keep h0 e1 hS hA hf hL hF
    obtain ⟨t2, a1, b1⟩ := kk r u t T'.heap (locs ++ L) e1.symm (by rw [← e2]; exact X'.warmed.alike) hp hb k1 k2 k3 T' rfl X'
    exact ⟨t2, st t2 a1, b1⟩
  · obtain ⟨k1, k2, k3⟩ := vx_keep h0 e1 hS hAX hf hL hF
    obtain ⟨t2, a1, b1⟩ := kx E ce q u t T'.heap (locs ++ L) e1.symm (by rw [← e2]; exact X'.warmed.alike) hp hb k1 k2 k3 (by rw [e1]; exact hce) hcv hcl T' rfl X'
    exact ⟨t2, st.trans a1, b1⟩
theorem vx_calld {S SX : Type} {post : UInt64 → S → Prop} {px : SX → Prop} {B : S → State → Prop} {BX : String → SX → State → Prop} {AX : Nat → Prop} (hr : vx_Run p l e R s m args below meth c H locs cells slots mc ms (F0 m pc ls st0) rest (va_Qd post B A1 a) (vx_X px BX AX) free) (hS : va_S A0 H0 H locs) (hA : ∀ q, q < H.size → A1 q → A0 q) (hf : ∀ q, free q → A0 q) (hAX : ∀ q, q < H.size → AX q → A0 q)
    (kx : ∀ (E : String) (ce : Cell) (q9 : Addr) (u : SX) (t : State) (H1 : Heap) (locs1 : List Loc), t.heap = H1 → s.vm.Alike t.vm → px u → BX E u t → H.size ≤ H1.size → (∀ q : Nat, q < H.size → ¬ AX q → H1[q]? = H[q]?) → va_S A0 H0 H1 locs1 → H1[q9]? = some ce → ce.vm = .none → s.vm.findClass E = some ce.cls → vx_W p l e R s m args below meth c H1 locs1 (cells + mc) (slots + ms) Q (F0 m pc ls rest) q9)
    (kk : ∀ (r : UInt64) (u : S) (t : State) (H1 : Heap) (locs1 : List Loc), t.heap = H1 → s.vm.Alike t.vm → post r u → B u t → H.size ≤ H1.size → (∀ q : Nat, q < H.size → ¬ A1 q → H1[q]? = H[q]?) → va_S A0 H0 H1 locs1 → W p l e R s m args below meth c H1 locs1 (cells + mc) (slots + ms) Q (F0 m (pc + 3) ls (.double r :: rest))) : W p l e R s m args below meth c H locs cells slots Q (F0 m pc ls st0) := by
  intro T hT X
  rcases hr T hT X with ⟨v, st₀, t, T', L, h0, X', hL, e1, e2, ⟨⟨r, u, hv, hp, hb⟩, hF⟩, st⟩ | ⟨q, st₀, t, T', L, E, ce, h0, X', hL, e1, e2, ⟨u, hp, hb, hF⟩, hce, hcv, hcl, st⟩
  · cases hv
    obtain ⟨k1, k2, k3⟩ := vx_keep h0 e1 hS hA hf hL hF
    obtain ⟨t2, a1, b1⟩ := kk r u t T'.heap (locs ++ L) e1.symm (by rw [← e2]; exact X'.warmed.alike) hp hb k1 k2 k3 T' rfl X'
    exact ⟨t2, st t2 a1, b1⟩
  · obtain ⟨k1, k2, k3⟩ := vx_keep h0 e1 hS hAX hf hL hF
    obtain ⟨t2, a1, b1⟩ := kx E ce q u t T'.heap (locs ++ L) e1.symm (by rw [← e2]; exact X'.warmed.alike) hp hb k1 k2 k3 (by rw [e1]; exact hce) hcv hcl T' rfl X'
    exact ⟨t2, st.trans a1, b1⟩
theorem vx_callv {S SX : Type} {post : S → Prop} {px : SX → Prop} {B : S → State → Prop} {BX : String → SX → State → Prop} {AX : Nat → Prop} (hr : vx_Run p l e R s m args below meth c H locs cells slots mc ms (F0 m pc ls st0) rest (va_Qv post B A1 a) (vx_X px BX AX) free) (hS : va_S A0 H0 H locs) (hA : ∀ q, q < H.size → A1 q → A0 q) (hf : ∀ q, free q → A0 q) (hAX : ∀ q, q < H.size → AX q → A0 q)
    (kx : ∀ (E : String) (ce : Cell) (q9 : Addr) (u : SX) (t : State) (H1 : Heap) (locs1 : List Loc), t.heap = H1 → s.vm.Alike t.vm → px u → BX E u t → H.size ≤ H1.size → (∀ q : Nat, q < H.size → ¬ AX q → H1[q]? = H[q]?) → va_S A0 H0 H1 locs1 → H1[q9]? = some ce → ce.vm = .none → s.vm.findClass E = some ce.cls → vx_W p l e R s m args below meth c H1 locs1 (cells + mc) (slots + ms) Q (F0 m pc ls rest) q9)
    (kk : ∀ (u : S) (t : State) (H1 : Heap) (locs1 : List Loc), t.heap = H1 → s.vm.Alike t.vm → post u → B u t → H.size ≤ H1.size → (∀ q : Nat, q < H.size → ¬ A1 q → H1[q]? = H[q]?) → va_S A0 H0 H1 locs1 → W p l e R s m args below meth c H1 locs1 (cells + mc) (slots + ms) Q (F0 m (pc + 3) ls (rest))) : W p l e R s m args below meth c H locs cells slots Q (F0 m pc ls st0) := by
  intro T hT X
  rcases hr T hT X with ⟨v, st₀, t, T', L, h0, X', hL, e1, e2, ⟨⟨u, hv, hp, hb⟩, hF⟩, st⟩ | ⟨q, st₀, t, T', L, E, ce, h0, X', hL, e1, e2, ⟨u, hp, hb, hF⟩, hce, hcv, hcl, st⟩
  · cases hv
    obtain ⟨k1, k2, k3⟩ := vx_keep h0 e1 hS hA hf hL hF
    obtain ⟨t2, a1, b1⟩ := kk u t T'.heap (locs ++ L) e1.symm (by rw [← e2]; exact X'.warmed.alike) hp hb k1 k2 k3 T' rfl X'
    exact ⟨t2, st t2 a1, b1⟩
  · obtain ⟨k1, k2, k3⟩ := vx_keep h0 e1 hS hAX hf hL hF
    obtain ⟨t2, a1, b1⟩ := kx E ce q u t T'.heap (locs ++ L) e1.symm (by rw [← e2]; exact X'.warmed.alike) hp hb k1 k2 k3 (by rw [e1]; exact hce) hcv hcl T' rfl X'
    exact ⟨t2, st.trans a1, b1⟩
/-- caught by the row x of this method's table; the rows ahead don't take it -/
theorem vx_catch {own name : String} {E : String} {ce : Cell} {q : Addr} (hown : s.vm.findClass own = some m.cls) (pre : List ExceptionTableEntry) (x : ExceptionTableEntry) (suf : List ExceptionTableEntry) (hsplit : c.exceptionTable.toList = pre ++ x :: suf)
    (hpass : ∀ z ∈ pre, covers z pc = false ∨ (z.catchType ≠ 0 ∧ ∃ nm : String, (Cond.classLink own z.catchType nm).before args s = true ∧ va_Nc E nm s)) (hx : covers x pc = true) (h0 : x.catchType ≠ 0)
    (hlink : (Cond.classLink own x.catchType name).before args s = true) (hcast : (Cond.castable E name).before args s = true) (hcell : H[q]? = some ce) (hv : ce.vm = .none) (hcl : s.vm.findClass E = some ce.cls)
    (kk : W p l e R s m args below meth c H locs cells slots Q (F0 m x.handlerPc ls [.ref q])) : vx_W p l e R s m args below meth c H locs cells slots Q (F0 m pc ls rest) q := by
  intro T hT X
  have hpl : e.platform.magicAccessors = ({} : Platform).magicAccessors := by rw [X.admits.platform]
  obtain ⟨c3, c4, hc3, hc4, hasg⟩ := Cond.castable_spec hcast
  cases Option.some.inj (hc3.symm.trans hcl)
  obtain ⟨c5, hc5, hcl5⟩ := Cond.classLink_spec hown hlink e.platform hpl
  cases Option.some.inj (hc4.symm.trans hc5)
  obtain ⟨vm', X', st⟩ := X.thenCaughtThrough q (g := F0 m pc ls rest) rfl (Steps.refl _) (by rw [hT]; exact hcell) (by rw [hv]; rfl) (by obtain ⟨k9, h9, -⟩ := Vm.findClass_spec hcl; exact ⟨k9, h9⟩) pre x suf hsplit
    (fun z hz => by
      rcases hpass z hz with h | ⟨hz0, nm, hl1, hn1⟩
      · exact Or.inl h
      · obtain ⟨c6, hc6, hcl6⟩ := Cond.classLink_spec hown hl1 e.platform hpl
        obtain ⟨a8, b8, h1, h2, h3⟩ := hn1
        cases Option.some.inj (h1.symm.trans hcl)
        cases Option.some.inj (h2.symm.trans hc6)
        exact Or.inr ⟨hz0, _, hcl6, h3⟩) hx (Or.inr ⟨h0, c4, hcl5, hasg⟩)
  obtain ⟨t, a1, b1⟩ := kk (T.setVm vm') hT X'
  exact ⟨t, st.trans a1, b1⟩
end Rows
section Ends
variable {p : Program} {l : Launch} {e : Env} {R : Room} {s : State} {m : MethodId} {args : Array Value} {below : List Frame} {meth : Method} {c : Code} {H : Heap} {locs : List Loc} {cells slots : Nat} {Q : State → Prop}
variable {mc ms : Nat} {free : Addr → Prop} {A0 A1 : Nat → Prop} {H0 : Heap} {a : Array Value} {ls : Array Slot} {st0 rest : List Value}
variable {Qc : Array Value → State → Outcome → State → Prop} {XC : String → State → State → Prop}
/-- what a body that may throw owes at its end -/
def vx_MQ (below : List Frame) (Qc : Array Value → State → Outcome → State → Prop) (XC : String → State → State → Prop) (a : Array Value) (s : State) (mc ms : Nat) (free : Addr → Prop) : State → Prop := fun t =>
  ∃ o, t.status = .running ∧ Ended t below o ∧ vx_Q Qc XC mc ms free a s o t
theorem vx_ret {g : JFrame} {mc ms : Nat} (k : W p l e R s m args below meth c H locs cells slots (MQ below Qc args s mc ms free) g) : W p l e R s m args below meth c H locs cells slots (vx_MQ below Qc XC args s mc ms free) g := by
  intro T hT X
  obtain ⟨t, a1, o, b1, b2, b3, b4⟩ := k T hT X
  exact ⟨t, a1, o, b1, b2, Or.inl ⟨b3, b4⟩⟩
/-- not caught here: it goes on to the caller -/
theorem vx_widen {g : JFrame} {q : Addr} {k n : Nat} (h1 : cells ≤ k) (h2 : slots ≤ n) (kk : vx_W p l e R s m args below meth c H locs k n Q g q) : vx_W p l e R s m args below meth c H locs cells slots Q g q := fun T hT X => kk T hT (stand_widen X h1 h2)
theorem vx_out {pc : Nat} {E : String} {ce : Cell} {q : Addr} {mc ms : Nat} (hout : ∀ x ∈ c.exceptionTable.toList, covers x pc = false) (hlocks : meth.locks = false) (hcell : H[q]? = some ce) (hv : ce.vm = .none) (hcl : s.vm.findClass E = some ce.cls)
    (hx : ∀ t : State, t.heap = H → s.vm.Alike t.vm → XC E s t) (hf : ∀ z ∈ locs, free z.base) (hc : cells ≤ mc) (hs : slots ≤ ms) :
    vx_W p l e R s m args below meth c H locs cells slots (vx_MQ below Qc XC args s mc ms free) (F0 m pc ls rest) q := by
  intro T hT X
  obtain ⟨st1, hrun, hend, hW, hsm⟩ := X.leaveThrown q (g := F0 m pc ls rest) rfl rfl rfl hout hlocks
  have hcell9 : (T.setFrames (.throwing q :: below)).heap[q]? = some ce := by
    show T.heap[q]? = some ce
    rw [hT]; exact hcell
  exact ⟨_, st1, .threw q, hrun, hend, Or.inr ⟨q, rfl, E, ce, locs, hx _ hT hW.alike, hcell9, hv, hcl, hW, hsm.mono hc hs, hf⟩⟩
theorem vx_frame {U : State} {k n : Nat} (h : s.sameButNew ({ U with vm := s.vm } : State) locs k n) : s.heap.size ≤ U.heap.size ∧ ∀ q : Nat, q < s.heap.size → (∀ z ∈ locs, z.base ≠ q) → U.heap[q]? = s.heap[q]? := by
  obtain ⟨-, h2, -, -, -, h6⟩ := h
  refine ⟨h2, fun q hq hz => ?_⟩
  obtain ⟨c9, e1, e2, e3, e4⟩ := h6 q _ (Array.getElem?_eq_getElem hq)
  have hs : c9.slots = (s.heap[q]).slots := Array.ext_getElem? fun i => e4 i fun hm => hz _ hm rfl
  have h9 : c9 = s.heap[q] := by
    rw [hs] at e2
    exact e2
  have e5 : U.heap[q]? = some c9 := e1
  rw [e5, h9, Array.getElem?_eq_getElem hq]
/-- the words of a throw but the four that speak of the heap -/
def vx_no (w : Cond) : Bool := decide (w ≠ .isRef (.static Bundle.tN "UNASSIGNED_STACK" Bundle.steD)) && decide (w ≠ .isRef (.static Bundle.tN "SUPPRESSED_SENTINEL" Bundle.listD)) && decide (w ≠ .laysStatic Bundle.tN "UNASSIGNED_STACK" Bundle.steD) && decide (w ≠ .laysStatic Bundle.tN "SUPPRESSED_SENTINEL" Bundle.listD)
def vx_at0 (own : String) (ic : Nat) (X : String) (names : List String) : List Cond := (Bundle.ownAtoms0 own ic X names).filter vx_no
def vx_atS (own : String) (ic : Nat) (X : String) (names : List String) : List Cond := (Bundle.ownAtoms own ic X names).filter vx_no
/-- a word that the tables alone decide, or a good one -/
def vx_ot (w : Cond) : Bool := w.onTables || goodWord w
theorem vx_ot_at {args a' : Array Value} {s U : State} {w : Cond} (hW : s.WarmedH U.vm) (hvm : s.vm = U.vm) (hg : vx_ot w = true) (h : w.before args s = true) : w.before a' U = true := by
  simp only [vx_ot, Bool.or_eq_true] at hg
  rcases hg with hg | hg
  · exact va_tabs hg hvm h
  · exact word_at hW (good_of_word hg) h
/-- a list's words: the good ones out of the method's own list, the others by premises of their own -/
theorem vx_hat {args : Array Value} {s : State} {L B : List Cond} (h1 : ∀ w ∈ L.filter goodWord, w.before args s = true) (h2 : ∀ w ∈ L.filter (fun w => !goodWord w), w ∈ B) (h3 : ∀ w ∈ B, w.before args s = true) : ∀ w ∈ L, w.before args s = true := by
  intro w hw
  by_cases g : goodWord w = true
  · exact h1 w (List.mem_filter.mpr ⟨hw, g⟩)
  · refine h3 w (h2 w (List.mem_filter.mpr ⟨hw, ?_⟩))
    show (!goodWord w) = true
    cases hgw : goodWord w
    · rfl
    · exact absurd hgw g
theorem vx_c {args : Array Value} {s : State} {w : Cond} {B : List Cond} (h : w.before args s = true) (t : ∀ w ∈ B, w.before args s = true) : ∀ w' ∈ w :: B, w'.before args s = true := fun w' h' => (List.mem_cons.mp h').elim (fun e => by rw [e]; exact h) (t w')
theorem vx_n {args : Array Value} {s : State} : ∀ w ∈ ([] : List Cond), w.before args s = true := fun _ h => nomatch h
theorem vx_own {args : Array Value} {s : State} {L : List Cond} (h1 : ∀ w ∈ L.filter vx_no, w.before args s = true)
    (hU : (Cond.isRef (.static Bundle.tN "UNASSIGNED_STACK" Bundle.steD)).before args s = true) (hN : (Cond.isRef (.static Bundle.tN "SUPPRESSED_SENTINEL" Bundle.listD)).before args s = true)
    (lU : (Cond.laysStatic Bundle.tN "UNASSIGNED_STACK" Bundle.steD).before args s = true) (lN : (Cond.laysStatic Bundle.tN "SUPPRESSED_SENTINEL" Bundle.listD).before args s = true) : ∀ w ∈ L, w.before args s = true := by
  intro w hw
  by_cases e1 : w = .isRef (.static Bundle.tN "UNASSIGNED_STACK" Bundle.steD)
  · rw [e1]; exact hU
  · by_cases e2 : w = .isRef (.static Bundle.tN "SUPPRESSED_SENTINEL" Bundle.listD)
    · rw [e2]; exact hN
    · by_cases e3 : w = .laysStatic Bundle.tN "UNASSIGNED_STACK" Bundle.steD
      · rw [e3]; exact lU
      · by_cases e4 : w = .laysStatic Bundle.tN "SUPPRESSED_SENTINEL" Bundle.listD
        · rw [e4]; exact lN
        · exact h1 w (List.mem_filter.mpr ⟨hw, by unfold vx_no; rw [decide_eq_true e1, decide_eq_true e2, decide_eq_true e3, decide_eq_true e4]; rfl⟩)
/-- where a static field lies, its class's statics cell in H -/
def vx_L (C n d : String) (A : Nat → Prop) (U : State) (H : Heap) : Prop := ∃ (c : ClassId) (k : Class) (i : Nat) (f : Field) (a : Nat) (cell : Cell), U.vm.findClass C = some c ∧ U.fieldFound? C n d = some (c, k, i, f) ∧ f.isStatic = true ∧ k.statics = some a ∧ H[a]? = some cell ∧ cell.vm.isStatics = true ∧ cell.cls = c ∧ f.slot < cell.slots.size ∧ k.staticTypes[f.slot]? = some f.type ∧ ¬ A a
theorem vx_L.moved {C n d : String} {A : Nat → Prop} {u U : State} {H : Heap} (hvm : u.vm.Alike U.vm) (h : vx_L C n d A u H) : vx_L C n d A U H := by
  obtain ⟨c, k, i, f, a, cell, h1, h2, h3, h4, h5, h6, h7, h8, h9, h10⟩ := h
  obtain ⟨k', hi', he⟩ := State.fieldFound?_setVm hvm h2
  exact ⟨c, k', i, f, a, cell, by rw [hvm.findClass]; exact h1, hi', h3, by rw [he]; exact h4, h5, h6, h7, h8, by rw [he]; exact h9, h10⟩
theorem vx_L.kept {C n d : String} {A : Nat → Prop} {U : State} {H H1 : Heap} (h : vx_L C n d A U H) (hq : ∀ a : Nat, a < H.size → ¬ A a → H1[a]? = H[a]?) : vx_L C n d A U H1 := by
  obtain ⟨c, k, i, f, a, cell, h1, h2, h3, h4, h5, h6, h7, h8, h9, h10⟩ := h
  exact ⟨c, k, i, f, a, cell, h1, h2, h3, h4, by rw [hq a (Array.getElem?_eq_some_iff.mp h5).1 h10]; exact h5, h6, h7, h8, h9, h10⟩
theorem vx_L.narrow {C n d : String} {A B : Nat → Prop} {U : State} {H : Heap} (h : vx_L C n d A U H) (hAB : ∀ q, B q → A q) : vx_L C n d B U H := by
  obtain ⟨c, k, i, f, a, cell, h1, h2, h3, h4, h5, h6, h7, h8, h9, h10⟩ := h
  exact ⟨c, k, i, f, a, cell, h1, h2, h3, h4, h5, h6, h7, h8, h9, fun z => h10 (hAB _ z)⟩
theorem vx_L.word {C n d : String} {A : Nat → Prop} {s : State} {args : Array Value} (h : vx_L C n d A s s.heap) : (Cond.laysStatic C n d).before args s = true := by
  obtain ⟨c, k, i, f, a, cell, h1, h2, h3, h4, h5, h6, h7, h8, h9, -⟩ := h
  show (Cond.laysStatic C n d).holds args s none s [] = true
  exact Cond.laysStatic_of h1 h2 h3 h4 h5 h6 h7 h8 h9
/-- .. and what it holds: null or some reference -/
def vx_Zq (C n d : String) (A : Nat → Prop) (U : State) (H : Heap) : Prop := va_Zq C n d A U H ∧ vx_L C n d A U H
theorem vx_Zq.moved {C n d : String} {A : Nat → Prop} {u U : State} {H : Heap} (hvm : u.vm.Alike U.vm) (h : vx_Zq C n d A u H) : vx_Zq C n d A U H := ⟨va_Zq.moved hvm h.1, vx_L.moved hvm h.2⟩
theorem vx_Zq.kept {C n d : String} {A : Nat → Prop} {U : State} {H H1 : Heap} (h : vx_Zq C n d A U H) (hq : ∀ a : Nat, a < H.size → ¬ A a → H1[a]? = H[a]?) : vx_Zq C n d A U H1 := ⟨va_Zq.kept h.1 hq, vx_L.kept h.2 hq⟩
theorem vx_Zq.narrow {C n d : String} {A B : Nat → Prop} {U : State} {H : Heap} (h : vx_Zq C n d A U H) (hAB : ∀ q, B q → A q) : vx_Zq C n d B U H := ⟨va_Zq.narrow h.1 hAB, vx_L.narrow h.2 hAB⟩
theorem vx_Zqof {args : Array Value} {s : State} {C n d : String} {A : Nat → Prop} (hl : (Cond.laysStatic C n d).before args s = true) (hini : (Cond.initialized C).before args s = true) (h : (Cond.isRef (.static C n d)).before args s = true) (hA : ∀ a : Nat, a < s.heap.size → ¬ A a) : vx_Zq C n d A s s.heap := by
  refine ⟨va_Zqof hl hini h hA, ?_⟩
  obtain ⟨c, k, i, f, a, cell, h1, h2, h3, h4, h5, h6, h7, h8, h9⟩ := Cond.laysStatic_spec hl
  exact ⟨c, k, i, f, a, cell, h1, h2, h3, h4, h5, h6, h7, h8, h9, hA a (Array.getElem?_eq_some_iff.mp h5).1⟩
theorem vx_isRef {C n d : String} {v : Value} {A : Nat → Prop} {s : State} {args : Array Value} (h : va_Z C n d v A s s.heap) (hv : v.isRef = true) : (Cond.isRef (.static C n d)).before args s = true := by
  obtain ⟨cf, kf, fi, f, a, cell, h1, h2, h3, h4, h5, h6, h7, -⟩ := h
  have he : (Term.static C n d).eval args s none [] s = some v := by
    simp [Term.eval, State.fieldNamed?, h1, h2, h4, h5, h6, h7]
  simp only [Cond.before, Cond.holds, Cond.value, he]
  cases v <;> simp_all [Value.isRef]
theorem vx_isRefq {C n d : String} {A : Nat → Prop} {s : State} {args : Array Value} (h : va_Zq C n d A s s.heap) : (Cond.isRef (.static C n d)).before args s = true := by
  rcases h with h | ⟨t, h⟩
  · exact vx_isRef h rfl
  · exact vx_isRef h rfl
/-- the same frame, seen from here: as if the method were called anew in this heap -/
theorem vx_rebase {T : State} (X : Stand p l e R s m args below meth c T locs cells slots) {R' : Room} (hf : R'.frames ≤ R.frames) (hl : R'.locals ≤ R.locals) (hc : cells + R'.cells ≤ R.cells) (hs : slots + R'.slots ≤ R.slots) :
    Stand p l e R' ((T.setVm s.vm).setFrames (.invoking m args :: below)) m args below meth c T [] 0 0 := by
  have htop : (T.setVm s.vm).topJava?.isSome := X.here.top
  have hF : ((T.setVm s.vm).setFrames (.invoking m args :: below)).frames = .invoking m args :: below := State.frames_setFrames _ (State.cur_lt_of_top htop)
  obtain ⟨g₀, hg0⟩ := Option.isSome_iff_exists.mp htop
  obtain ⟨r, hr⟩ := State.topJava?_eq_some.mp hg0
  have hl9 : e.platform.stackLimits (T.setVm s.vm).me = e.platform.stackLimits s.me := X.limits
  have hb9 : (T.setVm s.vm).me.stackBytes = s.me.stackBytes := X.bytes
  refine ⟨X.admits, X.cas, X.clock, hF, ?_, X.hears, X.method, X.code, X.here, X.tail, X.warmed, ?_, ?_, ?_⟩
  · have h := X.room
    have hU : ((T.setVm s.vm).setFrames (.invoking m args :: below)).localsInUse = s.localsInUse := by
      rw [State.localsInUse_invoking hF (meth := meth) (c := c) X.method X.code, State.localsInUse_invoking X.frames X.method X.code]
    simp only [State.hasRoom, Bool.and_eq_true, decide_eq_true_eq] at h ⊢
    obtain ⟨⟨⟨⟨h1, h2, h3, h4, h5, h6⟩, h7⟩, h8⟩, h9⟩ := h
    rw [X.frames, List.length_cons] at h2 h3
    have q1 := X.heapSize
    have q2 := X.used
    simp only [hF, hU, List.length_cons, State.stackLimits_setFrames, State.stackBytes_setFrames, hl9, hb9]
    refine ⟨⟨⟨⟨by omega, by omega, by omega, by omega, by omega, h6⟩, ?_⟩, ?_⟩, X.book⟩
    · show T.heap.size + R'.cells ≤ e.platform.maxCells
      omega
    · show T.slotsUsed + R'.slots ≤ e.platform.maxSlots
      omega
  · rw [State.stackLimits_setFrames]; rfl
  · rw [State.stackBytes_setFrames]; rfl
  · refine ⟨?_, Nat.le_refl _, Nat.le_refl _, ?_, ?_, fun a c9 h9 => ⟨c9, h9, rfl, rfl, fun _ _ => rfl⟩⟩
    · obtain ⟨t, ht, -⟩ := State.frames_cons hr
      show T.setVm s.vm = { ((T.setVm s.vm).setFrames (.invoking m args :: below)).setFrames (T.setVm s.vm).frames with heap := T.heap, slotsUsed := T.slotsUsed }
      rw [State.setFrames_setFrames, State.setFrames_self ht]
      rfl
    · show T.slotsUsed = T.slotsUsed + ((T.heap.toList.drop T.heap.size).map (·.slots.size)).sum
      rw [List.drop_eq_nil_of_le (Nat.le_of_eq Array.length_toList)]
      rfl
    · show ((T.heap.toList.drop T.heap.size).map (·.slots.size)).sum ≤ 0
      rw [List.drop_eq_nil_of_le (Nat.le_of_eq Array.length_toList)]
      exact Nat.le_refl _
/-- 'throw new E()': new; dup; invokespecial; athrow -/
theorem vx_throw0 {cc : ByteArray} {pc : Nat} (hexec : p.tables.exec = Jvm.exec) (hb : c.code = cc) (hl : l.stackTraces = false) {own cls : String} {names : List String} {ik ic mc ms : Nat} {A : Nat → Prop}
    (hown : s.vm.findClass own = some m.cls) (hcls : Bundle.fit cls = true) (hnames : ∀ n ∈ names, Bundle.fit n = true)
    (hk : (Cond.classLink own ik cls).before args s = true) (hini : (Cond.initialized cls).before args s = true) (hat : ∀ w ∈ vx_at0 own ic cls names, w.before args s = true)
    (hgood : ∀ w ∈ Cond.classLink own ik cls :: Cond.initialized cls :: vx_at0 own ic cls names, vx_ot w = true)
    (hU : vx_Zq Bundle.tN "UNASSIGNED_STACK" Bundle.steD A s s.heap) (hN : vx_Zq Bundle.tN "SUPPRESSED_SENTINEL" Bundle.listD A s s.heap) (hS : va_S A s.heap H locs) (hsize : ls.size = c.maxLocals)
    (d0 : decode cc pc = .ok (.new ik, 3)) (d3 : decode cc (pc + 3) = .ok (.dup, 1)) (d4 : decode cc (pc + 4) = .ok (.invokespecial ic, 3)) (d7 : decode cc (pc + 7) = .ok (.athrow, 1))
    (hout : ∀ x ∈ c.exceptionTable.toList, covers x (pc + 7) = false)
    (hRframes : names.length + 3 < R.frames) (hRlocals : (rest.map fun v => v.category).sum + (13 * (names.length + 1) + 42) ≤ R.locals) (hRcells : cells + 1 ≤ R.cells) (hRslots : slots + 6 ≤ R.slots) (hlocks : meth.locks = false)
    (hx : ∀ t : State, s.vm.Alike t.vm → H.size ≤ t.heap.size → (∀ q : Nat, q < H.size → t.heap[q]? = H[q]?) → XC cls s t)
    (hf : ∀ z ∈ locs, free z.base) (hc : cells + 1 ≤ mc) (hs : slots + 6 ≤ ms) :
    W p l e R s m args below meth c H locs cells slots (vx_MQ below Qc XC args s mc ms free) (F0 m pc ls rest) := by
  intro T hT X
  have htr : e.platform.stackTraces = false := (show e.platform.stackTraces = l.stackTraces by rw [X.admits.platform]).trans hl
  have Y := vx_rebase X (R' := { frames := R.frames, locals := R.locals, cells := 1, slots := 6 }) (Nat.le_refl _) (Nat.le_refl _) hRcells hRslots
  obtain ⟨s', hA⟩ : ∃ z, z = (T.setVm s.vm).setFrames (.invoking m args :: below) := ⟨_, rfl⟩
  rw [← hA] at Y
  have hvm : s'.vm = s.vm := by rw [hA]; rfl
  have hhp : s'.heap = H := by rw [hA]; exact hT
  have hW0 : s.WarmedH s'.vm := by rw [hvm]; exact State.WarmedH.refl s
  have hat' : ∀ w ∈ vx_at0 own ic cls names, w.before args s' = true := fun w hw => vx_ot_at hW0 hvm.symm (hgood w (List.mem_cons_of_mem _ (List.mem_cons_of_mem _ hw))) (hat w hw)
  have hk' : (Cond.classLink own ik cls).before args s' = true := vx_ot_at hW0 hvm.symm (hgood _ List.mem_cons_self) hk
  have hini' : (Cond.initialized cls).before args s' = true := vx_ot_at hW0 hvm.symm (hgood _ (List.mem_cons_of_mem _ List.mem_cons_self)) hini
  have hU' : vx_Zq Bundle.tN "UNASSIGNED_STACK" Bundle.steD A s' s'.heap := by rw [hhp]; exact vx_Zq.moved hW0.alike (hU.kept hS.2.1)
  have hN' : vx_Zq Bundle.tN "SUPPRESSED_SENTINEL" Bundle.listD A s' s'.heap := by rw [hhp]; exact vx_Zq.moved hW0.alike (hN.kept hS.2.1)
  have h : ∀ w ∈ Bundle.ownAtoms0 own ic cls names, w.before args s' = true := vx_own hat' (vx_isRefq hU'.1) (vx_isRefq hN'.1) hU'.2.word hN'.2.word
  have hown' : s'.vm.findClass own = some m.cls := by rw [hvm]; exact hown
  have hins : (Cond.instantiable cls 6).before args s' = true := h _ (by simp [Bundle.ownAtoms0])
  obtain ⟨vm₁, cX, kX, hfX, hkX, -, -, X₁, st1⟩ := Y.newCold hexec (own := own) (C := cls) (index := ik) (n := 6) hown' hk' hins hini'
    (g := F0 m pc ls rest) rfl (by rw [hb]; exact d0) (Nat.le_refl _) (Nat.le_refl _)
  generalize hT1 : (T.setVm vm₁).pushCell { cls := cX, slots := kX.instanceTypes.map defaultValue, vm := .none } = T1 at X₁ st1
  have hcat : (Value.ref T.heap.size).category = 1 := rfl
  have hcellA : T1.heap[T.heap.size]? = some (freshCell cX kX) := by rw [← hT1]; exact State.heap_pushCell_size _ _
  have d3' : decode c.code (pc + 3) = .ok (.dup, 1) := by rw [hb]; exact d3
  obtain ⟨U, hsteps, hrun, hend, hW, hsame, ce, hce, hO⟩ := X₁.ctorThrow0 hexec htr (own := own) (cls := cls) (names := names) (ic := ic) hown' hcls hnames h (fun x hx => nomatch hx) hfX hkX hcellA (by rw [hhp, hT]; exact Nat.le_refl _)
    (g := { method := m, pc := pc + 4, locals := ls, stack := .ref T.heap.size :: .ref T.heap.size :: rest, locked := none }) rfl hsize rfl rfl (rest := rest) rfl
    (by rw [hb]; exact d4) (by rw [hb]; exact d7) hout hRframes (by simp only [List.map_cons, List.sum_cons, hcat]; omega) hlocks
  obtain ⟨f1, f2⟩ := vx_frame hsame
  rw [hhp] at f1 f2
  have hWs : s.WarmedH U.vm := State.WarmedH.trans hW0 hW
  have hcl : s.vm.findClass cls = some ce.cls := by
    have h9 := hO.cls
    rw [hvm] at h9
    exact h9
  have hall : s.sameButNew ({ U with vm := s.vm } : State) locs mc ms := by
    subst hA
    obtain ⟨e1, e2⟩ := hsame
    rw [State.setFrames_setFrames] at e1
    have h2 : (T.setVm s.vm).sameButNew ({ U with vm := s.vm } : State) [] (0 + 1) (0 + 6) := ⟨e1, e2⟩
    have h3 := X.same.trans h2
    rw [List.append_nil] at h3
    exact h3.mono hc hs
  refine ⟨U, ?_, .threw T.heap.size, hrun, hend, Or.inr ⟨T.heap.size, rfl, cls, ce, locs, hx U hWs.alike f1 (fun q hq => f2 q hq (fun z hz => nomatch hz)), hce, hO.vm, hcl, hWs, hall, hf⟩⟩
  refine st1 _ ?_
  show Steps p.tables e below (T1.setTop { method := m, pc := pc + 3, locals := ls, stack := .ref T.heap.size :: rest, locked := none }) _
  jvm_step X₁.here [X₁.here.top, hexec, d3', Value.category]
  exact hsteps
/-- 'throw new E("text")': new; dup; ldc; invokespecial; athrow -/
theorem vx_throwS {cc : ByteArray} {pc : Nat} (hexec : p.tables.exec = Jvm.exec) (hb : c.code = cc) (hl : l.stackTraces = false) {own cls text : String} {names : List String} {ik is ic mc ms sa : Nat} {A : Nat → Prop}
    (hown : s.vm.findClass own = some m.cls) (hcls : Bundle.fit cls = true) (hnames : ∀ n ∈ names, Bundle.fit n = true)
    (hk : (Cond.classLink own ik cls).before args s = true) (hini : (Cond.initialized cls).before args s = true) (hstr : vk_R own is text sa s) (hat : ∀ w ∈ vx_atS own ic cls names, w.before args s = true)
    (hgood : ∀ w ∈ Cond.classLink own ik cls :: Cond.initialized cls :: vx_atS own ic cls names, vx_ot w = true)
    (hU : vx_Zq Bundle.tN "UNASSIGNED_STACK" Bundle.steD A s s.heap) (hN : vx_Zq Bundle.tN "SUPPRESSED_SENTINEL" Bundle.listD A s s.heap) (hS : va_S A s.heap H locs) (hsize : ls.size = c.maxLocals)
    (d0 : decode cc pc = .ok (.new ik, 3)) (d3 : decode cc (pc + 3) = .ok (.dup, 1)) (d4 : decode cc (pc + 4) = .ok (.ldc is, 2)) (d6 : decode cc (pc + 6) = .ok (.invokespecial ic, 3)) (d9 : decode cc (pc + 9) = .ok (.athrow, 1))
    (hout : ∀ x ∈ c.exceptionTable.toList, covers x (pc + 9) = false)
    (hRframes : names.length + 3 < R.frames) (hRlocals : (rest.map fun v => v.category).sum + (13 * (names.length + 1) + 43) ≤ R.locals) (hRcells : cells + 1 ≤ R.cells) (hRslots : slots + 6 ≤ R.slots) (hlocks : meth.locks = false)
    (hx : ∀ t : State, s.vm.Alike t.vm → H.size ≤ t.heap.size → (∀ q : Nat, q < H.size → t.heap[q]? = H[q]?) → XC cls s t)
    (hf : ∀ z ∈ locs, free z.base) (hc : cells + 1 ≤ mc) (hs : slots + 6 ≤ ms) :
    W p l e R s m args below meth c H locs cells slots (vx_MQ below Qc XC args s mc ms free) (F0 m pc ls rest) := by
  intro T hT X
  have htr : e.platform.stackTraces = false := (show e.platform.stackTraces = l.stackTraces by rw [X.admits.platform]).trans hl
  have Y := vx_rebase X (R' := { frames := R.frames, locals := R.locals, cells := 1, slots := 6 }) (Nat.le_refl _) (Nat.le_refl _) hRcells hRslots
  obtain ⟨s', hA⟩ : ∃ z, z = (T.setVm s.vm).setFrames (.invoking m args :: below) := ⟨_, rfl⟩
  rw [← hA] at Y
  have hvm : s'.vm = s.vm := by rw [hA]; rfl
  have hhp : s'.heap = H := by rw [hA]; exact hT
  have hW0 : s.WarmedH s'.vm := by rw [hvm]; exact State.WarmedH.refl s
  have hat' : ∀ w ∈ vx_atS own ic cls names, w.before args s' = true := fun w hw => vx_ot_at hW0 hvm.symm (hgood w (List.mem_cons_of_mem _ (List.mem_cons_of_mem _ hw))) (hat w hw)
  have hk' : (Cond.classLink own ik cls).before args s' = true := vx_ot_at hW0 hvm.symm (hgood _ List.mem_cons_self) hk
  have hini' : (Cond.initialized cls).before args s' = true := vx_ot_at hW0 hvm.symm (hgood _ (List.mem_cons_of_mem _ List.mem_cons_self)) hini
  have hU' : vx_Zq Bundle.tN "UNASSIGNED_STACK" Bundle.steD A s' s'.heap := by rw [hhp]; exact vx_Zq.moved hW0.alike (hU.kept hS.2.1)
  have hN' : vx_Zq Bundle.tN "SUPPRESSED_SENTINEL" Bundle.listD A s' s'.heap := by rw [hhp]; exact vx_Zq.moved hW0.alike (hN.kept hS.2.1)
  have h : ∀ w ∈ Bundle.ownAtoms own ic cls names, w.before args s' = true := vx_own hat' (vx_isRefq hU'.1) (vx_isRefq hN'.1) hU'.2.word hN'.2.word
  have hown' : s'.vm.findClass own = some m.cls := by rw [hvm]; exact hown
  have hins : (Cond.instantiable cls 6).before args s' = true := h _ (by simp [Bundle.ownAtoms])
  obtain ⟨vm₁, cX, kX, hfX, hkX, -, -, X₁, st1⟩ := Y.newCold hexec (own := own) (C := cls) (index := ik) (n := 6) hown' hk' hins hini'
    (g := F0 m pc ls rest) rfl (by rw [hb]; exact d0) (Nat.le_refl _) (Nat.le_refl _)
  generalize hT1 : (T.setVm vm₁).pushCell { cls := cX, slots := kX.instanceTypes.map defaultValue, vm := .none } = T1 at X₁ st1
  have hcat : (Value.ref T.heap.size).category = 1 := rfl
  have hcellA : T1.heap[T.heap.size]? = some (freshCell cX kX) := by rw [← hT1]; exact State.heap_pushCell_size _ _
  have d3' : decode c.code (pc + 3) = .ok (.dup, 1) := by rw [hb]; exact d3
  have d4' : decode c.code (pc + 4) = .ok (.ldc is, 2) := by rw [hb]; exact d4
  have hstr' : vk_R own is text sa s' := vk_R.warm hW0 hstr
  obtain ⟨U, hsteps, hrun, hend, hW, hsame, ce, hce, hO⟩ := X₁.ctorThrowS hexec htr (own := own) (cls := cls) (names := names) (ic := ic) hown' hcls hnames h (fun x hx => nomatch hx) hfX hkX hcellA (by rw [hhp, hT]; exact Nat.le_refl _) (msg := .ref sa) rfl
    (g := { method := m, pc := pc + 6, locals := ls, stack := .ref sa :: .ref T.heap.size :: .ref T.heap.size :: rest, locked := none }) rfl hsize rfl rfl (rest := rest) rfl
    (by rw [hb]; exact d6) (by rw [hb]; exact d9) hout hRframes (by simp only [List.map_cons, List.sum_cons, hcat]; omega) hlocks
  obtain ⟨f1, f2⟩ := vx_frame hsame
  rw [hhp] at f1 f2
  have hWs : s.WarmedH U.vm := State.WarmedH.trans hW0 hW
  have hcl : s.vm.findClass cls = some ce.cls := by
    have h9 := hO.cls
    rw [hvm] at h9
    exact h9
  have hall : s.sameButNew ({ U with vm := s.vm } : State) locs mc ms := by
    subst hA
    obtain ⟨e1, e2⟩ := hsame
    rw [State.setFrames_setFrames] at e1
    have h2 : (T.setVm s.vm).sameButNew ({ U with vm := s.vm } : State) [] (0 + 1) (0 + 6) := ⟨e1, e2⟩
    have h3 := X.same.trans h2
    rw [List.append_nil] at h3
    exact h3.mono hc hs
  refine ⟨U, ?_, .threw T.heap.size, hrun, hend, Or.inr ⟨T.heap.size, rfl, cls, ce, locs, hx U hWs.alike f1 (fun q hq => f2 q hq (fun z hz => nomatch hz)), hce, hO.vm, hcl, hWs, hall, hf⟩⟩
  refine st1 _ ?_
  show Steps p.tables e below (T1.setTop { method := m, pc := pc + 3, locals := ls, stack := .ref T.heap.size :: rest, locked := none }) _
  jvm_step X₁.here [X₁.here.top, hexec, d3', Value.category]
  exact X₁.ldcString hexec (own := own) (text := text) (index := is) (a := sa) hown' hstr'.1 hstr'.2
    (g := { method := m, pc := pc + 4, locals := ls, stack := .ref T.heap.size :: .ref T.heap.size :: rest, locked := none }) rfl d4' _ hsteps
/-- 'throw new E("text")', the text by a wide index -/
theorem vx_throwSW {cc : ByteArray} {pc : Nat} (hexec : p.tables.exec = Jvm.exec) (hb : c.code = cc) (hl : l.stackTraces = false) {own cls text : String} {names : List String} {ik is ic mc ms sa : Nat} {A : Nat → Prop}
    (hown : s.vm.findClass own = some m.cls) (hcls : Bundle.fit cls = true) (hnames : ∀ n ∈ names, Bundle.fit n = true)
    (hk : (Cond.classLink own ik cls).before args s = true) (hini : (Cond.initialized cls).before args s = true) (hstr : vk_R own is text sa s) (hat : ∀ w ∈ vx_atS own ic cls names, w.before args s = true)
    (hgood : ∀ w ∈ Cond.classLink own ik cls :: Cond.initialized cls :: vx_atS own ic cls names, vx_ot w = true)
    (hU : vx_Zq Bundle.tN "UNASSIGNED_STACK" Bundle.steD A s s.heap) (hN : vx_Zq Bundle.tN "SUPPRESSED_SENTINEL" Bundle.listD A s s.heap) (hS : va_S A s.heap H locs) (hsize : ls.size = c.maxLocals)
    (d0 : decode cc pc = .ok (.new ik, 3)) (d3 : decode cc (pc + 3) = .ok (.dup, 1)) (d4 : decode cc (pc + 4) = .ok (.ldc_w is, 3)) (d7 : decode cc (pc + 7) = .ok (.invokespecial ic, 3)) (d10 : decode cc (pc + 10) = .ok (.athrow, 1))
    (hout : ∀ x ∈ c.exceptionTable.toList, covers x (pc + 10) = false)
    (hRframes : names.length + 3 < R.frames) (hRlocals : (rest.map fun v => v.category).sum + (13 * (names.length + 1) + 43) ≤ R.locals) (hRcells : cells + 1 ≤ R.cells) (hRslots : slots + 6 ≤ R.slots) (hlocks : meth.locks = false)
    (hx : ∀ t : State, s.vm.Alike t.vm → H.size ≤ t.heap.size → (∀ q : Nat, q < H.size → t.heap[q]? = H[q]?) → XC cls s t)
    (hf : ∀ z ∈ locs, free z.base) (hc : cells + 1 ≤ mc) (hs : slots + 6 ≤ ms) :
    W p l e R s m args below meth c H locs cells slots (vx_MQ below Qc XC args s mc ms free) (F0 m pc ls rest) := by
  intro T hT X
  have htr : e.platform.stackTraces = false := (show e.platform.stackTraces = l.stackTraces by rw [X.admits.platform]).trans hl
  have Y := vx_rebase X (R' := { frames := R.frames, locals := R.locals, cells := 1, slots := 6 }) (Nat.le_refl _) (Nat.le_refl _) hRcells hRslots
  obtain ⟨s', hA⟩ : ∃ z, z = (T.setVm s.vm).setFrames (.invoking m args :: below) := ⟨_, rfl⟩
  rw [← hA] at Y
  have hvm : s'.vm = s.vm := by rw [hA]; rfl
  have hhp : s'.heap = H := by rw [hA]; exact hT
  have hW0 : s.WarmedH s'.vm := by rw [hvm]; exact State.WarmedH.refl s
  have hat' : ∀ w ∈ vx_atS own ic cls names, w.before args s' = true := fun w hw => vx_ot_at hW0 hvm.symm (hgood w (List.mem_cons_of_mem _ (List.mem_cons_of_mem _ hw))) (hat w hw)
  have hk' : (Cond.classLink own ik cls).before args s' = true := vx_ot_at hW0 hvm.symm (hgood _ List.mem_cons_self) hk
  have hini' : (Cond.initialized cls).before args s' = true := vx_ot_at hW0 hvm.symm (hgood _ (List.mem_cons_of_mem _ List.mem_cons_self)) hini
  have hU' : vx_Zq Bundle.tN "UNASSIGNED_STACK" Bundle.steD A s' s'.heap := by rw [hhp]; exact vx_Zq.moved hW0.alike (hU.kept hS.2.1)
  have hN' : vx_Zq Bundle.tN "SUPPRESSED_SENTINEL" Bundle.listD A s' s'.heap := by rw [hhp]; exact vx_Zq.moved hW0.alike (hN.kept hS.2.1)
  have h : ∀ w ∈ Bundle.ownAtoms own ic cls names, w.before args s' = true := vx_own hat' (vx_isRefq hU'.1) (vx_isRefq hN'.1) hU'.2.word hN'.2.word
  have hown' : s'.vm.findClass own = some m.cls := by rw [hvm]; exact hown
  have hins : (Cond.instantiable cls 6).before args s' = true := h _ (by simp [Bundle.ownAtoms])
  obtain ⟨vm₁, cX, kX, hfX, hkX, -, -, X₁, st1⟩ := Y.newCold hexec (own := own) (C := cls) (index := ik) (n := 6) hown' hk' hins hini'
    (g := F0 m pc ls rest) rfl (by rw [hb]; exact d0) (Nat.le_refl _) (Nat.le_refl _)
  generalize hT1 : (T.setVm vm₁).pushCell { cls := cX, slots := kX.instanceTypes.map defaultValue, vm := .none } = T1 at X₁ st1
  have hcat : (Value.ref T.heap.size).category = 1 := rfl
  have hcellA : T1.heap[T.heap.size]? = some (freshCell cX kX) := by rw [← hT1]; exact State.heap_pushCell_size _ _
  have d3' : decode c.code (pc + 3) = .ok (.dup, 1) := by rw [hb]; exact d3
  have d4' : decode c.code (pc + 4) = .ok (.ldc_w is, 3) := by rw [hb]; exact d4
  have hstr' : vk_R own is text sa s' := vk_R.warm hW0 hstr
  obtain ⟨U, hsteps, hrun, hend, hW, hsame, ce, hce, hO⟩ := X₁.ctorThrowS hexec htr (own := own) (cls := cls) (names := names) (ic := ic) hown' hcls hnames h (fun x hx => nomatch hx) hfX hkX hcellA (by rw [hhp, hT]; exact Nat.le_refl _) (msg := .ref sa) rfl
    (g := { method := m, pc := pc + 7, locals := ls, stack := .ref sa :: .ref T.heap.size :: .ref T.heap.size :: rest, locked := none }) rfl hsize rfl rfl (rest := rest) rfl
    (by rw [hb]; exact d7) (by rw [hb]; exact d10) hout hRframes (by simp only [List.map_cons, List.sum_cons, hcat]; omega) hlocks
  obtain ⟨f1, f2⟩ := vx_frame hsame
  rw [hhp] at f1 f2
  have hWs : s.WarmedH U.vm := State.WarmedH.trans hW0 hW
  have hcl : s.vm.findClass cls = some ce.cls := by
    have h9 := hO.cls
    rw [hvm] at h9
    exact h9
  have hall : s.sameButNew ({ U with vm := s.vm } : State) locs mc ms := by
    subst hA
    obtain ⟨e1, e2⟩ := hsame
    rw [State.setFrames_setFrames] at e1
    have h2 : (T.setVm s.vm).sameButNew ({ U with vm := s.vm } : State) [] (0 + 1) (0 + 6) := ⟨e1, e2⟩
    have h3 := X.same.trans h2
    rw [List.append_nil] at h3
    exact h3.mono hc hs
  refine ⟨U, ?_, .threw T.heap.size, hrun, hend, Or.inr ⟨T.heap.size, rfl, cls, ce, locs, hx U hWs.alike f1 (fun q hq => f2 q hq (fun z hz => nomatch hz)), hce, hO.vm, hcl, hWs, hall, hf⟩⟩
  refine st1 _ ?_
  show Steps p.tables e below (T1.setTop { method := m, pc := pc + 3, locals := ls, stack := .ref T.heap.size :: rest, locked := none }) _
  jvm_step X₁.here [X₁.here.top, hexec, d3', Value.category]
  exact X₁.ldcStringW hexec (own := own) (text := text) (index := is) (a := sa) hown' hstr'.1 hstr'.2
    (g := { method := m, pc := pc + 4, locals := ls, stack := .ref T.heap.size :: .ref T.heap.size :: rest, locked := none }) rfl d4' _ hsteps
end Ends
section Bodies
variable {l : Launch}
theorem vx_ofW {y : MethodName} {ws ws' : List Cond} {rm : Room} {Pc : Array Value → State → Prop} {Qc : Array Value → State → Outcome → State → Prop} {XC : String → State → State → Prop} {mc ms : Nat} {free : Addr → Prop} {cc : ByteArray} {maxL : Nat} {ret : Option FieldType}
    (hy : plainName y.cls = true) (hw : ws = Cond.code y cc maxL ret :: ws')
    (body : ∀ p e s m args below meth c s₁, BodyLoose p l y (headSpec ws rm) cc maxL ret e s m args below meth c s₁ → c.maxLocals = maxL → (∀ x ∈ c.exceptionTable.toList, False) → Pc args s →
      W p l e (headSpec ws rm).room s m args below meth c s.heap [] 0 0 (vx_MQ below Qc XC args s mc ms free) (entryFrame m args maxL)) : vx_Met l y ws rm Pc Qc XC mc ms free := by
  refine MetFree.of_bodyS (code := cc) (maxLocals := maxL) (ret := ret) hy ?_ ?_
  · intro args s m h hn
    obtain ⟨meth, c, h1, h2, h3, h4, h5, h6, -, -⟩ := Cond.code_spec hn (atoms_spec (ws := ws) h _ (by rw [hw]; exact List.mem_cons_self))
    exact ⟨meth, c, h1, h2, h3, h4, h5, h6⟩
  · intro p e s m args below meth c s₁ B hml hP _
    have hh0 : s₁.heap = s.heap := by rw [B.state]; rfl
    have ht : ∀ x ∈ c.exceptionTable.toList, False := by
      obtain ⟨meth9, c9, h1, h2, -, -, -, -, h7, -⟩ := Cond.code_spec B.named (atoms_spec (ws := ws) B.pre _ (by rw [hw]; exact List.mem_cons_self))
      cases Option.some.inj (h1.symm.trans B.method)
      cases Option.some.inj (h2.symm.trans (Stand.of_body B).code)
      intro x hx
      rw [Array.isEmpty_iff.mp h7] at hx
      cases hx
    obtain ⟨t, a1, o, b1, b2, b3⟩ := body p e s m args below meth c s₁ B hml ht hP s₁ hh0 (Stand.of_body B)
    exact ⟨t, o, a1, b1, b2, b3⟩
/-- the table of a body with handlers -/
theorem vx_table {p : Program} {x y : MethodName} {S : Spec} {cc bytes : ByteArray} {maxL maxL' : Nat} {ret ret' : Option FieldType} {e : Env} {s s₁ : State} {m : MethodId} {args : Array Value} {below : List Frame} {meth : Method} {c : Code} {hh : List (Nat × Nat × Nat × Nat)}
    (B : BodyLoose p l y S cc maxL ret e s m args below meth c s₁) (h : (Cond.codeWith y bytes maxL' ret' hh).before args s = true) : c.exceptionTable.toList = tableOf hh := by
  obtain ⟨m9, meth9, c9, hn9, h1, h2, -, -, h6, -⟩ := Cond.codeWith_spec h
  cases Option.some.inj (hn9.symm.trans B.named)
  cases Option.some.inj (h1.symm.trans B.method)
  cases Option.some.inj (h2.symm.trans (Stand.of_body B).code)
  rw [← h6, table_eq]
end Bodies
end VXA
/-! ===== END ===== -/
/-! ===== BEGIN a static call of a method with an exception table ===== -/
section VXS
variable {p : Program} {l : Launch} {e : Env} {R : Room} {s : State} {m : MethodId} {args : Array Value} {below : List Frame} {meth : Method} {c : Code} {T : State} {H : Heap} {locs : List Loc} {cells slots : Nat}
abbrev vx_CSW (R : Room) (s : State) (args : Array Value) (own : String) (index : Nat) (y : MethodName) (bytes : ByteArray) (maxL : Nat) (ret : Option FieldType) (hh : List (Nat × Nat × Nat × Nat)) (ws : List Cond) (rm : Room) (mc ms n : Nat) : Prop :=
  (rm.cells = mc ∧ rm.slots = ms ∧ rm.frames + 1 ≤ R.frames ∧ 8 + (maxL + 11) + rm.locals ≤ R.locals ∧ (∀ w ∈ ws, ∀ (a' : Array Value) (U : State), s.WarmedH U.vm → w.before a' U = true) ∧ Cond.codeWith y bytes maxL ret hh ∈ ws) ∧
  (Cond.codeWith y bytes maxL ret hh).before args s = true ∧ (Cond.initialized y.cls).before args s = true ∧ (y.cls ≠ "java/lang/invoke/MethodHandle" ∧ y.cls ≠ "java/lang/invoke/VarHandle") ∧
  (∀ sig, parseMethodDescriptor y.desc = some sig → n = sig.parameters.length) ∧ (Cond.methodLink own index y).before args s = true ∧ (Cond.static y).before args s = true
theorem vx_cwSW {own : String} {index maxL mc ms : Nat} {y : MethodName} {bytes : ByteArray} {ret : Option FieldType} {hh : List (Nat × Nat × Nat × Nat)} {Ts ws ws' : List Cond} {rm : Room} (n : Nat) (ht : ∀ w ∈ Ts, w.before args s = true) (hT : GoodIn Ts (va_wsS own index y ws)) (hw : ws = Cond.codeWith y bytes maxL ret hh :: ws') (hrc : rm.cells = mc) (hrs : rm.slots = ms)
    (hd : y.cls ≠ "java/lang/invoke/MethodHandle" ∧ y.cls ≠ "java/lang/invoke/VarHandle" ∧ (parseMethodDescriptor y.desc).map (fun d => d.parameters.length) = some n) (hR : rm.frames + 1 ≤ R.frames ∧ 8 + (maxL + 11) + rm.locals ≤ R.locals) :
    vx_CSW R s args own index y bytes maxL ret hh ws rm mc ms n := by
  have ok : ∀ w ∈ va_wsS own index y ws, w.before args s = true := fun w h => ht w (hT w h).1
  have hG : GoodIn Ts ws := fun w h => hT w (by unfold va_wsS; exact List.mem_append_right _ h)
  have hc : Cond.codeWith y bytes maxL ret hh ∈ ws := by rw [hw]; exact List.mem_cons_self
  refine ⟨⟨hrc, hrs, hR.1, hR.2, pay_in ht hG, hc⟩, ht _ (hG _ hc).1, ok _ (by simp [va_wsS]), ⟨hd.1, hd.2.1⟩, fun sig h => ?_, ok _ (by simp [va_wsS]), ok _ (by simp [va_wsS])⟩
  have h2 := hd.2.2
  rw [h] at h2
  exact (Option.some.inj h2).symm
theorem vx_callSW (X : Stand p l e R s m args below meth c T locs cells slots) (hexec : p.tables.exec = Jvm.exec) {own : String} {index : Nat} {y : MethodName} {bytes : ByteArray} {maxL : Nat} {ret : Option FieldType} {hh : List (Nat × Nat × Nat × Nat)}
    (hown : s.vm.findClass own = some m.cls) (hlink : (Cond.methodLink own index y).before args s = true) (hstat : (Cond.static y).before args s = true) (hinit : (Cond.initialized y.cls).before args s = true)
    (hcode : (Cond.codeWith y bytes maxL ret hh).before args s = true) (hy : y.cls ≠ "java/lang/invoke/MethodHandle" ∧ y.cls ≠ "java/lang/invoke/VarHandle")
    {W9 : Nat} {Pre : Pt → Array Value → Prop} {Post : Pt → Array Value → Option Value → Pt → Prop} (hK : Back l R p e below s args y 3 W9 Pre Post)
    {g : JFrame} (hg : g.method = m) (hsize : g.locals.size = c.maxLocals) {argsL rest : List Value} (hlen : ∀ sig, parseMethodDescriptor y.desc = some sig → argsL.length = sig.parameters.length)
    (hstack : g.stack = argsL.reverse ++ rest) (hW : 2 * g.monitorRoom + (rest.map fun v => v.category).sum ≤ W9) (hdg : decode c.code g.pc = .ok (.invokestatic index, 3))
    (hpre : ∀ vm₁, s.WarmedH vm₁ → Pre ⟨T.setVm vm₁, locs, cells, slots⟩ argsL.toArray) :
    ∃ (v : Option Value) (vm₁ : Vm) (B : Pt), s.WarmedH vm₁ ∧ Stand p l e R s m args below meth c B.U B.locs B.cells B.slots ∧ Post ⟨T.setVm vm₁, locs, cells, slots⟩ argsL.toArray v B ∧
      ∀ target, Steps p.tables e below (B.U.setTop { g with pc := g.pc + 3, stack := v.toList ++ rest }) target → Steps p.tables e below (T.setTop g) target := by
  obtain ⟨mk, methM, cM, hnamed, hmethM, -, -, -, -, -, -, hsigM⟩ := Cond.codeWith_spec hcode
  have hstatic : methM.isStatic = true := Cond.static_spec hnamed hmethM hstat
  obtain ⟨kP, hkP, -⟩ := className_of_methodNamed hnamed
  have hinitP : kP.init = .initialized := Cond.initialized_spec (findClass_of_methodNamed hnamed) hkP hinit
  obtain ⟨vm₁, X₁, hstep₁⟩ := X.invokestatic hexec hown hlink hnamed hmethM hstatic hkP hinitP hy (g := g) hg (argsL := argsL) (rest := rest) (hlen _ hsigM) hstack hdg
  obtain ⟨v, B, X', hpost, hsteps⟩ := hK m meth c ⟨T.setVm vm₁, locs, cells, slots⟩ { g with stack := rest } (.invokestatic index) mk argsL.toArray X₁ hg hsize hdg hW (X₁.named hnamed) (hpre vm₁ X₁.warmed)
  exact ⟨v, vm₁, B, X₁.warmed, X', hpost, fun target h => hstep₁ _ fun acts => by rw [doInvoke_state]; exact hsteps.trans h⟩
theorem vx_runSW {y : MethodName} {bytes cc : ByteArray} {maxL nL mc ms n index : Nat} {ret : Option FieldType} {hh : List (Nat × Nat × Nat × Nat)} {ws : List Cond} {rm : Room} {Pc : Array Value → State → Prop} {Qc : Array Value → State → Outcome → State → Prop} {free : Addr → Prop} {Ts : List Cond} {own : String} {As rest : List Value} {g : JFrame}
    (S : CallFix p m c cc nL s args Ts own) (hM : Met l y ws rm Pc Qc mc ms free) (cw : vx_CSW R s args own index y bytes maxL ret hh ws rm mc ms n) (hp : PreS s H Pc As)
    (hg : g.method = m) (hn : As.length = n) (hsize : g.locals.size = nL) (hstack : g.stack = As.reverse ++ rest) (hW : 2 * g.monitorRoom + (rest.map fun v => v.category).sum ≤ 8) (hdg : decode cc g.pc = .ok (.invokestatic index, 3)) (hf : cells + mc ≤ R.cells ∧ slots + ms ≤ R.slots) :
    va_Run p l e R s m args below meth c H locs cells slots mc ms g rest (Qc As.toArray) (free) := by
  obtain ⟨⟨hrc, hrs, hfr, hlo, hws, hcw⟩, hcode, hini, hy, hlen, hl, hstt⟩ := cw
  have hK : Back l R p e below s args y 3 8 (PreOf R mc ms Pc) (PostOf Qc mc ms free) := va_backW (hh := hh) (bytes := bytes) (maxL := maxL) (ret := ret) hM hp.1 hrc hrs hfr hlo hws hcw (fun a' U hW => word_at hW (Or.inl (by first | rfl | simp [Cond.onTables, Cond.keeps, Cond.steady])) hini)
  obtain ⟨hx, hb, hml, ho, -⟩ := S
  intro T hT X
  obtain ⟨v, vm₁, ⟨U', l2, c2, s2⟩, hW₁, X', ⟨g', mk, t, L, e1, e2, hq, h1, hL, h2, h3⟩, st⟩ := vx_callSW X hx (hh := hh) (bytes := bytes) (maxL := maxL) (ret := ret) ho hl hstt hini hcode hy hK hg (hsize.trans hml.symm) (argsL := As) (rest := rest) (fun sig h => hn.trans (hlen sig h)) hstack hW (by rw [hb]; exact hdg)
    (fun vm₁ hW₁ => ⟨hf.1, hf.2, hp.2 (T.setVm vm₁) hT hW₁⟩)
  dsimp only [Pt.U, Pt.locs, Pt.cells, Pt.slots] at X' e1 e2 h1 h2 h3 st
  subst h1; subst h2; subst h3
  exact ⟨v, (T.setVm vm₁).calling g' mk As.toArray, t, U', L, hT, X', hL, e1, e2, hq, st⟩
/-- not caught here, past rows that name other classes: it goes on to the caller -/
theorem vx_outP {p : Program} {l : Launch} {e : Env} {R : Room} {s : State} {m : MethodId} {args : Array Value} {below : List Frame} {meth : Method} {c : Code} {H : Heap} {locs : List Loc} {cells slots : Nat} {free : Addr → Prop} {ls : Array Slot} {rest : List Value} {Qc : Array Value → State → Outcome → State → Prop} {XC : String → State → State → Prop}
    {pc : Nat} {own E : String} {ce : Cell} {q : Addr} {mc ms : Nat} (hown : s.vm.findClass own = some m.cls) (hlocks : meth.locks = false)
    (hpass : ∀ z ∈ c.exceptionTable.toList, covers z pc = false ∨ (z.catchType ≠ 0 ∧ ∃ nm : String, (Cond.classLink own z.catchType nm).before args s = true ∧ va_Nc E nm s)) (hcell : H[q]? = some ce) (hv : ce.vm = .none) (hcl : s.vm.findClass E = some ce.cls)
    (hx : ∀ t : State, t.heap = H → s.vm.Alike t.vm → XC E s t) (hf : ∀ z ∈ locs, free z.base) (hc : cells ≤ mc) (hs : slots ≤ ms) :
    vx_W p l e R s m args below meth c H locs cells slots (vx_MQ below Qc XC args s mc ms free) (F0 m pc ls rest) q := by
  intro T hT X
  have hpl : e.platform.magicAccessors = ({} : Platform).magicAccessors := by rw [X.admits.platform]
  obtain ⟨vm', hW', X', st⟩ := X.outThrough hlocks q (g := F0 m pc ls rest) rfl rfl rfl (cell := ce) (by rw [hT]; exact hcell) (by rw [hv]; rfl)
    (by obtain ⟨k9, h9, -⟩ := Vm.findClass_spec hcl; exact ⟨k9, h9⟩) (fun z hz => by
      rcases hpass z hz with h | ⟨hz0, nm, hl1, hn1⟩
      · exact Or.inl h
      · obtain ⟨c6, hc6, hcl6⟩ := Cond.classLink_spec hown hl1 e.platform hpl
        obtain ⟨a8, b8, h1, h2, h3⟩ := hn1
        cases Option.some.inj (h1.symm.trans hcl)
        cases Option.some.inj (h2.symm.trans hc6)
        exact Or.inr ⟨hz0, _, hcl6, h3⟩)
  obtain ⟨g₀, hfr⟩ := X'.frames_eq
  have hcell9 : ((T.setVm vm').setFrames (.throwing q :: below)).heap[q]? = some ce := by
    show T.heap[q]? = some ce
    rw [hT]; exact hcell
  have hend : Ended ((T.setVm vm').setFrames (.throwing q :: below)) below (.threw q) := State.frames_setFrames _ (State.cur_lt_of_frames hfr)
  refine ⟨(T.setVm vm').setFrames (.throwing q :: below), ?_, .threw q, X'.here.running, hend, Or.inr ⟨q, rfl, E, ce, locs, hx _ hT (X'.ends _).1.alike, hcell9, hv, hcl, (X'.ends _).1, (X'.ends _).2.mono hc hs, hf⟩⟩
  rw [X.pushThrowing_eq]
  exact st
/-- a thing of a world lies in the heap -/
theorem vx_lt {D : va_G} {cl : List vw_C} {ws : va_W} {H1 : Heap} (h : va_P D cl ws H1) {k : Nat} {q : Nat × va_E} (hk : ws[k]? = some q) : q.1 < H1.size := (h k q hk).lt
end VXS
/-! ===== END ===== -/
/-! ===== BEGIN methods with a table of their own: called by a name, returning or throwing ===== -/
section VXH
/-! vx_backW, vx_callVX, vx_callSX, vx_callVW, vx_runVW, vx_runVX, vx_runSX, vx_ofWH follow the same proofs as their sisters above (Free/Laws.lean, Shelf42/LK1.lean); vx_outP calls Shelf42/NT130.lean (outThrough). -/
section
variable {l : Launch} {R : Room} {p : Program} {e : Env} {below : List Frame} {s : State} {sargs : Array Value} {y : MethodName} {len W9 : Nat}
theorem vx_backW {ws : List Cond} {rm : Room} {Pc : Array Value → State → Prop} {Qc : Array Value → State → Outcome → State → Prop} {XC : String → State → State → Prop} {mc ms : Nat} {free : Addr → Prop} {bytes : ByteArray} {maxL : Nat} {ret : Option FieldType} {hh : List (Nat × Nat × Nat × Nat)}
    (hM : vx_Met l y ws rm Pc Qc XC mc ms free) (hblind : FrameBlind Pc) (hrc : rm.cells = mc) (hrs : rm.slots = ms)
    (hframes : rm.frames + 1 ≤ R.frames) (hlocals : W9 + (maxL + 11) + rm.locals ≤ R.locals)
    (hws : ∀ w ∈ ws, ∀ a' U, s.WarmedH U.vm → w.before a' U = true) (hcode : Cond.codeWith y bytes maxL ret hh ∈ ws) (hinit : ∀ a' U, s.WarmedH U.vm → (Cond.initialized y.cls).before a' U = true) :
    vx_Back l R p e below s sargs y len W9 (PreOf R mc ms Pc) (PostOf Qc mc ms free) (vx_Post XC mc ms free) := by
  intro m meth c A g ig mk a X hg hsize hdg hW hn hp
  have h1 : (headSpec ws rm).pre.before a A.U = true := atoms_intro fun w hw => hws w hw _ _ X.warmed
  have h2 : (Cond.codeWith y bytes maxL ret hh).before a A.U = true := hws _ hcode _ _ X.warmed
  have h3 : (Cond.initialized y.cls).before a A.U = true := hinit _ _ X.warmed
  have h4 : A.cells + (headSpec ws rm).room.cells ≤ R.cells := by rw [show (headSpec ws rm).room.cells = mc from hrc]; exact hp.1
  have h5 : A.slots + (headSpec ws rm).room.slots ≤ R.slots := by rw [show (headSpec ws rm).room.slots = ms from hrs]; exact hp.2.1
  have hPc : Pc a (A.U.calling g mk a) := hblind _ _ _ _ hp.2.2
  obtain ⟨U, Ls, c0, s0⟩ := A
  dsimp only [Pt.U, Pt.locs, Pt.cells, Pt.slots] at h1 h2 h3 h4 h5 X hn hPc ⊢
  obtain ⟨m9, methY, cY, hn9, hmY, hcY, -, hlY, -⟩ := Cond.codeWith_spec h2
  cases Option.some.inj (hn9.symm.trans hn)
  obtain ⟨kY, hkY, -⟩ := className_of_methodNamed hn
  have hinitY : kY.init = .initialized := Cond.initialized_spec (findClass_of_methodNamed hn) hkY h3
  have h : At U g.method c below := by rw [hg]; exact X.here
  have hlocals9 : W9 + (maxL + 11) + (headSpec ws rm).room.locals ≤ R.locals := hlocals
  have happ : (headSpec ws rm).appliesLoose y e.platform (U.calling g mk a) = true :=
    Spec.appliesLoose_calling (g := g) h hdg hn hkY hinitY
      (X.room_calling (g := g) (R' := (headSpec ws rm).room) hsize hmY hcY hframes (by rw [hlY]; omega) h4 h5) h1
  obtain ⟨mid, hmid⟩ := h.above
  have hfr : (U.setTop g).frames = (.java g :: mid) ++ below := by rw [State.frames_setTop' g h.top, hmid]; rfl
  obtain ⟨o, s₂, hsteps, -, hend, hq⟩ := Steps.callFree hM p X.admits X.cas X.clock (acts := []) hfr happ hPc trivial
  have hq' : vx_Q Qc XC mc ms free a (U.calling g mk a) o s₂ := hq
  rw [State.frames_setTop' g h.top] at hend
  obtain ⟨g₀, hg0⟩ := Option.isSome_iff_exists.mp h.top
  obtain ⟨r, hr⟩ := State.topJava?_eq_some.mp hg0
  have hr' : (({ U with heap := s₂.heap, slotsUsed := s₂.slotsUsed } : State).setVm s₂.vm).frames = .java g₀ :: r := hr
  rcases hq' with ⟨hqc, L, hfe, hL⟩ | ⟨q, rfl, E, ce, L, hx, hce, hcv, hcl, hW₂, hsm, hL⟩
  · obtain ⟨⟨v, rfl⟩, hW₂, e2, q2, q3, q4, q5, q6⟩ := id hfe
    have e3 : s₂ = ({ (U.calling g mk a).setFrames s₂.frames with heap := s₂.heap, slotsUsed := s₂.slotsUsed } : State).setVm s₂.vm := by
      have : s₂ = ({ s₂ with vm := (U.calling g mk a).vm } : State).setVm s₂.vm := rfl
      rw [e2] at this
      exact this
    obtain ⟨c₂, i₂, len₂, hc₂, hd₂, hf₂⟩ := hend
    have hW' : U.WarmedH s₂.vm := hW₂
    have hcc : c₂ = c := by
      have h1 : s₂.code? g.method = U.code? g.method := by
        rw [State.code?_eq, State.code?_eq, hW'.alike.method?]
      exact Option.some.inj (hc₂.symm.trans (h1.trans h.code))
    subst hcc
    have hlen : len₂ = len := by rw [hdg] at hd₂; cases hd₂; rfl
    subst hlen
    have hs₂ : s₂ = (({ U with heap := s₂.heap, slotsUsed := s₂.slotsUsed } : State).setVm s₂.vm).setTop { g with pc := g.pc + len₂, stack := v.toList ++ g.stack } := by
      refine e3.trans ?_
      rw [hf₂, State.calling_eq h.top, State.setFrames_setFrames, State.setTop_of_frames _ hr', hr]
      rfl
    have hsame : U.sameButNew ({ U with heap := s₂.heap, slotsUsed := s₂.slotsUsed } : State) L mc ms := by
      refine ⟨?_, q2, q3, q4, q5, q6⟩
      obtain ⟨t, ht, -⟩ := State.frames_cons hr
      show ({ U with heap := s₂.heap, slotsUsed := s₂.slotsUsed } : State) = { U.setFrames U.frames with heap := s₂.heap, slotsUsed := s₂.slotsUsed }
      rw [State.setFrames_self ht]
    subst hg
    refine Or.inl ⟨v, ⟨(({ U with heap := s₂.heap, slotsUsed := s₂.slotsUsed } : State).setVm s₂.vm), Ls ++ L, c0 + mc, s0 + ms⟩,
      ⟨X.admits, X.cas, X.clock, X.frames, X.room, X.hears, X.method, X.code, (X.here.setHeapUsed s₂.heap s₂.slotsUsed).setVm hW'.alike, X.tail, State.WarmedH.trans X.warmed hW', X.limits, X.bytes, X.same.trans (hsame.setVm s.vm)⟩,
      ⟨g, mk, s₂, L, rfl, rfl, hqc, rfl, hL, rfl, rfl⟩, ?_⟩
    show Steps p.tables e below _ ((({ U with heap := s₂.heap, slotsUsed := s₂.slotsUsed } : State).setVm s₂.vm).setTop { g with pc := g.pc + len₂, stack := v.toList ++ g.stack })
    rw [← hs₂]
    exact hsteps
  · obtain ⟨e2, q2, q3, q4, q5, q6⟩ := id hsm
    have e3 : s₂ = ({ (U.calling g mk a).setFrames s₂.frames with heap := s₂.heap, slotsUsed := s₂.slotsUsed } : State).setVm s₂.vm := by
      have : s₂ = ({ s₂ with vm := (U.calling g mk a).vm } : State).setVm s₂.vm := rfl
      rw [e2] at this
      exact this
    have hf₂ : s₂.frames = .throwing q :: .java g :: U.frames.tail := hend
    have hW' : U.WarmedH s₂.vm := hW₂
    have hs₂ : s₂ = ((({ U with heap := s₂.heap, slotsUsed := s₂.slotsUsed } : State).setVm s₂.vm).setTop g).pushFrame (.throwing q) := by
      refine e3.trans ?_
      rw [hf₂, State.calling_eq h.top, State.setFrames_setFrames, State.pushFrame, State.frames_setTop _ hr', State.setTop_of_frames _ hr', State.setFrames_setFrames, hr]
      rfl
    have hsame : U.sameButNew ({ U with heap := s₂.heap, slotsUsed := s₂.slotsUsed } : State) L mc ms := by
      refine ⟨?_, q2, q3, q4, q5, q6⟩
      obtain ⟨t, ht, -⟩ := State.frames_cons hr
      show ({ U with heap := s₂.heap, slotsUsed := s₂.slotsUsed } : State) = { U.setFrames U.frames with heap := s₂.heap, slotsUsed := s₂.slotsUsed }
      rw [State.setFrames_self ht]
    subst hg
    refine Or.inr ⟨q, ⟨(({ U with heap := s₂.heap, slotsUsed := s₂.slotsUsed } : State).setVm s₂.vm), Ls ++ L, c0 + mc, s0 + ms⟩,
      ⟨X.admits, X.cas, X.clock, X.frames, X.room, X.hears, X.method, X.code, (X.here.setHeapUsed s₂.heap s₂.slotsUsed).setVm hW'.alike, X.tail, State.WarmedH.trans X.warmed hW', X.limits, X.bytes, X.same.trans (hsame.setVm s.vm)⟩,
      ⟨g, mk, s₂, L, E, ce, rfl, rfl, hx, hce, hcv, hcl, rfl, hL, rfl, rfl⟩, ?_⟩
    show Steps p.tables e below _ (((({ U with heap := s₂.heap, slotsUsed := s₂.slotsUsed } : State).setVm s₂.vm).setTop g).pushFrame (.throwing q))
    rw [← hs₂]
    exact hsteps
end
variable {p : Program} {l : Launch} {e : Env} {R : Room} {s : State} {m : MethodId} {args : Array Value} {below : List Frame} {meth : Method} {c : Code} {T : State} {H : Heap} {locs : List Loc} {cells slots : Nat}
theorem vx_callVX (X : Stand p l e R s m args below meth c T locs cells slots) (hexec : p.tables.exec = Jvm.exec) {own C : String} {index : Nat} {y : MethodName} {bytes : ByteArray} {maxL : Nat} {ret : Option FieldType} {hh : List (Nat × Nat × Nat × Nat)}
    (hown : s.vm.findClass own = some m.cls) (hlink : (Cond.methodLink own index y).before args s = true) (hinst : (Cond.instanceMethod y).before args s = true) (hsel : (Cond.selects C y y).before args s = true)
    (hcode : (Cond.codeWith y bytes maxL ret hh).before args s = true) (hy : y.cls ≠ "java/lang/invoke/MethodHandle" ∧ y.cls ≠ "java/lang/invoke/VarHandle")
    {W9 : Nat} {Pre : Pt → Array Value → Prop} {Post : Pt → Array Value → Option Value → Pt → Prop} {PostX : Pt → Array Value → Addr → Pt → Prop} (hK : vx_Back l R p e below s args y 3 W9 Pre Post PostX)
    {b : Addr} {cellB : Cell} (hcell : T.heap[b]? = some cellB) (hobj : cellB.vm.isStatics = false) (hcls : s.vm.findClass C = some cellB.cls)
    {g : JFrame} (hg : g.method = m) (hsize : g.locals.size = c.maxLocals) {argsL rest : List Value} (hlen : ∀ sig, parseMethodDescriptor y.desc = some sig → argsL.length = sig.parameters.length)
    (hstack : g.stack = argsL.reverse ++ .ref b :: rest) (hW : 2 * g.monitorRoom + (rest.map fun v => v.category).sum ≤ W9) (hdg : decode c.code g.pc = .ok (.invokevirtual index, 3))
    (hpre : ∀ vm₁, s.WarmedH vm₁ → Pre ⟨T.setVm vm₁, locs, cells, slots⟩ (Value.ref b :: argsL).toArray) :
    (∃ (v : Option Value) (vm₁ : Vm) (B : Pt), s.WarmedH vm₁ ∧ Stand p l e R s m args below meth c B.U B.locs B.cells B.slots ∧ Post ⟨T.setVm vm₁, locs, cells, slots⟩ (Value.ref b :: argsL).toArray v B ∧
      ∀ target, Steps p.tables e below (B.U.setTop { g with pc := g.pc + 3, stack := v.toList ++ rest }) target → Steps p.tables e below (T.setTop g) target) ∨
    (∃ (q : Addr) (vm₁ : Vm) (B : Pt), s.WarmedH vm₁ ∧ Stand p l e R s m args below meth c B.U B.locs B.cells B.slots ∧ PostX ⟨T.setVm vm₁, locs, cells, slots⟩ (Value.ref b :: argsL).toArray q B ∧
      Steps p.tables e below (T.setTop g) ((B.U.setTop { g with stack := rest }).pushFrame (.throwing q))) := by
  obtain ⟨mk, methM, hnamed, hmethM, hstM, habM⟩ := Cond.instanceMethod_spec hinst
  obtain ⟨m8, methM', cM, hn8, hmethM', -, -, -, -, -, -, hsigM⟩ := Cond.codeWith_spec hcode
  cases Option.some.inj (hn8.symm.trans hnamed)
  cases hmethM.symm.trans hmethM'
  obtain ⟨c2, r2, m2, q1, q2, q3, q4, kP, hkP, hkPi⟩ := Cond.selects_spec hsel
  cases hcls.symm.trans q1
  cases (State.methodFound?_of_named hnamed hy).symm.trans q2
  cases hnamed.symm.trans q3
  have hselP : selectMethod e.platform s.vm cellB.cls mk = .method mk := by rw [Launch.admits_selectMethod X.admits]; exact q4
  obtain ⟨vm₁, X₁, hstep₁⟩ := X.invokevirtual hexec hown hlink hnamed hmethM hstM hkP hkPi hy (a := b) (cell := cellB) hcell
    (fun z h => by rw [h] at hobj; cases hobj) hselP hmethM habM hkP hkPi (g := g) hg (argsL := argsL) (rest := rest) (hlen _ hsigM) hstack hdg
  rcases hK m meth c ⟨T.setVm vm₁, locs, cells, slots⟩ { g with stack := rest } (.invokevirtual index) mk (Value.ref b :: argsL).toArray X₁ hg hsize hdg hW (X₁.named hnamed) (hpre vm₁ X₁.warmed) with ⟨v, B, X', hpost, hsteps⟩ | ⟨q, B, X', hpost, hsteps⟩
  · exact Or.inl ⟨v, vm₁, B, X₁.warmed, X', hpost, fun target h => hstep₁ _ fun acts => by rw [doInvoke_state]; exact hsteps.trans h⟩
  · exact Or.inr ⟨q, vm₁, B, X₁.warmed, X', hpost, hstep₁ _ fun acts => by rw [doInvoke_state]; exact hsteps⟩
theorem vx_callSX (X : Stand p l e R s m args below meth c T locs cells slots) (hexec : p.tables.exec = Jvm.exec) {own : String} {index : Nat} {y : MethodName} {bytes : ByteArray} {maxL : Nat} {ret : Option FieldType} {hh : List (Nat × Nat × Nat × Nat)}
    (hown : s.vm.findClass own = some m.cls) (hlink : (Cond.methodLink own index y).before args s = true) (hstat : (Cond.static y).before args s = true) (hinit : (Cond.initialized y.cls).before args s = true)
    (hcode : (Cond.codeWith y bytes maxL ret hh).before args s = true) (hy : y.cls ≠ "java/lang/invoke/MethodHandle" ∧ y.cls ≠ "java/lang/invoke/VarHandle")
    {W9 : Nat} {Pre : Pt → Array Value → Prop} {Post : Pt → Array Value → Option Value → Pt → Prop} {PostX : Pt → Array Value → Addr → Pt → Prop} (hK : vx_Back l R p e below s args y 3 W9 Pre Post PostX)
    {g : JFrame} (hg : g.method = m) (hsize : g.locals.size = c.maxLocals) {argsL rest : List Value} (hlen : ∀ sig, parseMethodDescriptor y.desc = some sig → argsL.length = sig.parameters.length)
    (hstack : g.stack = argsL.reverse ++ rest) (hW : 2 * g.monitorRoom + (rest.map fun v => v.category).sum ≤ W9) (hdg : decode c.code g.pc = .ok (.invokestatic index, 3))
    (hpre : ∀ vm₁, s.WarmedH vm₁ → Pre ⟨T.setVm vm₁, locs, cells, slots⟩ argsL.toArray) :
    (∃ (v : Option Value) (vm₁ : Vm) (B : Pt), s.WarmedH vm₁ ∧ Stand p l e R s m args below meth c B.U B.locs B.cells B.slots ∧ Post ⟨T.setVm vm₁, locs, cells, slots⟩ argsL.toArray v B ∧
      ∀ target, Steps p.tables e below (B.U.setTop { g with pc := g.pc + 3, stack := v.toList ++ rest }) target → Steps p.tables e below (T.setTop g) target) ∨
    (∃ (q : Addr) (vm₁ : Vm) (B : Pt), s.WarmedH vm₁ ∧ Stand p l e R s m args below meth c B.U B.locs B.cells B.slots ∧ PostX ⟨T.setVm vm₁, locs, cells, slots⟩ argsL.toArray q B ∧
      Steps p.tables e below (T.setTop g) ((B.U.setTop { g with stack := rest }).pushFrame (.throwing q))) := by
  obtain ⟨mk, methM, cM, hnamed, hmethM, -, -, -, -, -, -, hsigM⟩ := Cond.codeWith_spec hcode
  have hstatic : methM.isStatic = true := Cond.static_spec hnamed hmethM hstat
  obtain ⟨kP, hkP, -⟩ := className_of_methodNamed hnamed
  have hinitP : kP.init = .initialized := Cond.initialized_spec (findClass_of_methodNamed hnamed) hkP hinit
  obtain ⟨vm₁, X₁, hstep₁⟩ := X.invokestatic hexec hown hlink hnamed hmethM hstatic hkP hinitP hy (g := g) hg (argsL := argsL) (rest := rest) (hlen _ hsigM) hstack hdg
  rcases hK m meth c ⟨T.setVm vm₁, locs, cells, slots⟩ { g with stack := rest } (.invokestatic index) mk argsL.toArray X₁ hg hsize hdg hW (X₁.named hnamed) (hpre vm₁ X₁.warmed) with ⟨v, B, X', hpost, hsteps⟩ | ⟨q, B, X', hpost, hsteps⟩
  · exact Or.inl ⟨v, vm₁, B, X₁.warmed, X', hpost, fun target h => hstep₁ _ fun acts => by rw [doInvoke_state]; exact hsteps.trans h⟩
  · exact Or.inr ⟨q, vm₁, B, X₁.warmed, X', hpost, hstep₁ _ fun acts => by rw [doInvoke_state]; exact hsteps⟩
theorem vx_callVW (X : Stand p l e R s m args below meth c T locs cells slots) (hexec : p.tables.exec = Jvm.exec) {own C : String} {index : Nat} {y : MethodName} {bytes : ByteArray} {maxL : Nat} {ret : Option FieldType} {hh : List (Nat × Nat × Nat × Nat)}
    (hown : s.vm.findClass own = some m.cls) (hlink : (Cond.methodLink own index y).before args s = true) (hinst : (Cond.instanceMethod y).before args s = true) (hsel : (Cond.selects C y y).before args s = true)
    (hcode : (Cond.codeWith y bytes maxL ret hh).before args s = true) (hy : y.cls ≠ "java/lang/invoke/MethodHandle" ∧ y.cls ≠ "java/lang/invoke/VarHandle")
    {W9 : Nat} {Pre : Pt → Array Value → Prop} {Post : Pt → Array Value → Option Value → Pt → Prop} (hK : Back l R p e below s args y 3 W9 Pre Post)
    {b : Addr} {cellB : Cell} (hcell : T.heap[b]? = some cellB) (hobj : cellB.vm.isStatics = false) (hcls : s.vm.findClass C = some cellB.cls)
    {g : JFrame} (hg : g.method = m) (hsize : g.locals.size = c.maxLocals) {argsL rest : List Value} (hlen : ∀ sig, parseMethodDescriptor y.desc = some sig → argsL.length = sig.parameters.length)
    (hstack : g.stack = argsL.reverse ++ .ref b :: rest) (hW : 2 * g.monitorRoom + (rest.map fun v => v.category).sum ≤ W9) (hdg : decode c.code g.pc = .ok (.invokevirtual index, 3))
    (hpre : ∀ vm₁, s.WarmedH vm₁ → Pre ⟨T.setVm vm₁, locs, cells, slots⟩ (Value.ref b :: argsL).toArray) :
    ∃ (v : Option Value) (vm₁ : Vm) (B : Pt), s.WarmedH vm₁ ∧ Stand p l e R s m args below meth c B.U B.locs B.cells B.slots ∧ Post ⟨T.setVm vm₁, locs, cells, slots⟩ (Value.ref b :: argsL).toArray v B ∧
      ∀ target, Steps p.tables e below (B.U.setTop { g with pc := g.pc + 3, stack := v.toList ++ rest }) target → Steps p.tables e below (T.setTop g) target := by
  obtain ⟨mk, methM, hnamed, hmethM, hstM, habM⟩ := Cond.instanceMethod_spec hinst
  obtain ⟨m8, methM', cM, hn8, hmethM', -, -, -, -, -, -, hsigM⟩ := Cond.codeWith_spec hcode
  cases Option.some.inj (hn8.symm.trans hnamed)
  cases hmethM.symm.trans hmethM'
  obtain ⟨c2, r2, m2, q1, q2, q3, q4, kP, hkP, hkPi⟩ := Cond.selects_spec hsel
  cases hcls.symm.trans q1
  cases (State.methodFound?_of_named hnamed hy).symm.trans q2
  cases hnamed.symm.trans q3
  have hselP : selectMethod e.platform s.vm cellB.cls mk = .method mk := by rw [Launch.admits_selectMethod X.admits]; exact q4
  obtain ⟨vm₁, X₁, hstep₁⟩ := X.invokevirtual hexec hown hlink hnamed hmethM hstM hkP hkPi hy (a := b) (cell := cellB) hcell
    (fun z h => by rw [h] at hobj; cases hobj) hselP hmethM habM hkP hkPi (g := g) hg (argsL := argsL) (rest := rest) (hlen _ hsigM) hstack hdg
  obtain ⟨v, B, X', hpost, hsteps⟩ := hK m meth c ⟨T.setVm vm₁, locs, cells, slots⟩ { g with stack := rest } (.invokevirtual index) mk (Value.ref b :: argsL).toArray X₁ hg hsize hdg hW (X₁.named hnamed) (hpre vm₁ X₁.warmed)
  exact ⟨v, vm₁, B, X₁.warmed, X', hpost, fun target h => hstep₁ _ fun acts => by rw [doInvoke_state]; exact hsteps.trans h⟩
abbrev vx_CVW (R : Room) (s : State) (args : Array Value) (own C : String) (index : Nat) (y : MethodName) (bytes : ByteArray) (maxL : Nat) (ret : Option FieldType) (hh : List (Nat × Nat × Nat × Nat)) (ws : List Cond) (rm : Room) (mc ms n : Nat) : Prop :=
  (rm.cells = mc ∧ rm.slots = ms ∧ rm.frames + 1 ≤ R.frames ∧ 8 + (maxL + 11) + rm.locals ≤ R.locals ∧ (∀ w ∈ ws, ∀ (a' : Array Value) (U : State), s.WarmedH U.vm → w.before a' U = true) ∧ Cond.codeWith y bytes maxL ret hh ∈ ws) ∧
  (Cond.codeWith y bytes maxL ret hh).before args s = true ∧ (Cond.initialized y.cls).before args s = true ∧ (y.cls ≠ "java/lang/invoke/MethodHandle" ∧ y.cls ≠ "java/lang/invoke/VarHandle") ∧
  (∀ sig, parseMethodDescriptor y.desc = some sig → n = sig.parameters.length) ∧ (Cond.methodLink own index y).before args s = true ∧ (Cond.instanceMethod y).before args s = true ∧ (Cond.selects C y y).before args s = true
theorem vx_cwVW {own C : String} {index maxL mc ms : Nat} {y : MethodName} {bytes : ByteArray} {ret : Option FieldType} {hh : List (Nat × Nat × Nat × Nat)} {Ts ws ws' : List Cond} {rm : Room} (n : Nat) (ht : ∀ w ∈ Ts, w.before args s = true) (hT : GoodIn Ts (wsV own index C y ws)) (hw : ws = Cond.codeWith y bytes maxL ret hh :: ws') (hrc : rm.cells = mc) (hrs : rm.slots = ms)
    (hd : y.cls = C ∧ y.cls ≠ "java/lang/invoke/MethodHandle" ∧ y.cls ≠ "java/lang/invoke/VarHandle" ∧ (parseMethodDescriptor y.desc).map (fun d => d.parameters.length) = some n) (hR : rm.frames + 1 ≤ R.frames ∧ 8 + (maxL + 11) + rm.locals ≤ R.locals) :
    vx_CVW R s args own C index y bytes maxL ret hh ws rm mc ms n := by
  obtain ⟨hC, hd⟩ := hd
  subst hC
  have ok : ∀ w ∈ wsV own index y.cls y ws, w.before args s = true := fun w h => ht w (hT w h).1
  have hG : GoodIn Ts ws := fun w h => hT w (by unfold wsV; exact List.mem_append_right _ h)
  have hc : Cond.codeWith y bytes maxL ret hh ∈ ws := by rw [hw]; exact List.mem_cons_self
  refine ⟨⟨hrc, hrs, hR.1, hR.2, pay_in ht hG, hc⟩, ht _ (hG _ hc).1, ok _ (by simp [wsV]), ⟨hd.1, hd.2.1⟩, fun sig h => ?_, ok _ (by simp [wsV]), ok _ (by simp [wsV]), ok _ (by simp [wsV])⟩
  have h2 := hd.2.2
  rw [h] at h2
  exact (Option.some.inj h2).symm
theorem vx_runVW {y : MethodName} {bytes cc : ByteArray} {maxL nL mc ms n index : Nat} {ret : Option FieldType} {hh : List (Nat × Nat × Nat × Nat)} {ws : List Cond} {rm : Room} {Pc : Array Value → State → Prop} {Qc : Array Value → State → Outcome → State → Prop} {free : Addr → Prop} {Ts : List Cond} {own C : String} {b : Addr} {As rest : List Value} {g : JFrame}
    (S : CallFix p m c cc nL s args Ts own) (hM : Met l y ws rm Pc Qc mc ms free) (cw : vx_CVW R s args own C index y bytes maxL ret hh ws rm mc ms n) (hp : PreV s H C b Pc As)
    (hg : g.method = m) (hn : As.length = n) (hsize : g.locals.size = nL) (hstack : g.stack = As.reverse ++ .ref b :: rest) (hW : 2 * g.monitorRoom + (rest.map fun v => v.category).sum ≤ 8) (hdg : decode cc g.pc = .ok (.invokevirtual index, 3)) (hf : cells + mc ≤ R.cells ∧ slots + ms ≤ R.slots) :
    va_Run p l e R s m args below meth c H locs cells slots mc ms g rest (Qc (Value.ref b :: As).toArray) free := by
  obtain ⟨⟨hrc, hrs, hfr, hlo, hws, hcw⟩, hcode, hini, hy, hlen, hl, hin, hse⟩ := cw
  have hK : Back l R p e below s args y 3 8 (PreOf R mc ms Pc) (PostOf Qc mc ms free) := va_backW (hh := hh) (bytes := bytes) (maxL := maxL) (ret := ret) hM hp.1 hrc hrs hfr hlo hws hcw (fun a' U hW => word_at hW (Or.inl (by first | rfl | simp [Cond.onTables, Cond.keeps, Cond.steady])) hini)
  obtain ⟨hx, hb, hml, ho, -⟩ := S
  obtain ⟨-, ⟨cellB, hcB, hoB, hclB⟩, hPc⟩ := hp
  intro T hT X
  obtain ⟨v, vm₁, ⟨U', l2, c2, s2⟩, hW₁, X', ⟨g', mk, t, L, e1, e2, hq, h1, hL, h2, h3⟩, st⟩ := vx_callVW X hx (C := C) (hh := hh) (bytes := bytes) (maxL := maxL) (ret := ret) ho hl hin hse hcode hy hK (by rw [hT]; exact hcB) hoB hclB hg (hsize.trans hml.symm) (argsL := As) (rest := rest) (fun sig h => hn.trans (hlen sig h)) hstack hW (by rw [hb]; exact hdg)
    (fun vm₁ hW₁ => ⟨hf.1, hf.2, hPc (T.setVm vm₁) hT hW₁⟩)
  dsimp only [Pt.U, Pt.locs, Pt.cells, Pt.slots] at X' e1 e2 h1 h2 h3 st
  subst h1; subst h2; subst h3
  exact ⟨v, (T.setVm vm₁).calling g' mk (Value.ref b :: As).toArray, t, U', L, hT, X', hL, e1, e2, hq, st⟩
section
variable {y : MethodName} {bytes cc : ByteArray} {maxL nL mc ms n index : Nat} {ret : Option FieldType} {ws : List Cond} {rm : Room} {Pc : Array Value → State → Prop} {Qc : Array Value → State → Outcome → State → Prop} {XC : String → State → State → Prop} {free : Addr → Prop} {Ts : List Cond} {own C : String} {b : Addr} {As rest : List Value} {g : JFrame}
theorem vx_runVX {hh : List (Nat × Nat × Nat × Nat)} (S : CallFix p m c cc nL s args Ts own) (hM : vx_Met l y ws rm Pc Qc XC mc ms free) (cw : vx_CVW R s args own C index y bytes maxL ret hh ws rm mc ms n) (hp : PreV s H C b Pc As)
    (hg : g.method = m) (hn : As.length = n) (hsize : g.locals.size = nL) (hstack : g.stack = As.reverse ++ .ref b :: rest) (hW : 2 * g.monitorRoom + (rest.map fun v => v.category).sum ≤ 8) (hdg : decode cc g.pc = .ok (.invokevirtual index, 3)) (hf : cells + mc ≤ R.cells ∧ slots + ms ≤ R.slots) :
    vx_Run p l e R s m args below meth c H locs cells slots mc ms g rest (Qc (Value.ref b :: As).toArray) XC free := by
  obtain ⟨⟨hrc, hrs, hfr, hlo, hws, hcw⟩, hcode, hini, hy, hlen, hl, hin, hse⟩ := cw
  have hK : vx_Back l R p e below s args y 3 8 (PreOf R mc ms Pc) (PostOf Qc mc ms free) (vx_Post XC mc ms free) := vx_backW (hh := hh) (bytes := bytes) (maxL := maxL) (ret := ret) hM hp.1 hrc hrs hfr hlo hws hcw (fun a' U hW => word_at hW (Or.inl (by first | rfl | simp [Cond.onTables, Cond.keeps, Cond.steady])) hini)
  obtain ⟨hx, hb, hml, ho, -⟩ := S
  obtain ⟨-, ⟨cellB, hcB, hoB, hclB⟩, hPc⟩ := hp
  intro T hT X
  rcases vx_callVX X hx (C := C) (hh := hh) (bytes := bytes) (maxL := maxL) (ret := ret) ho hl hin hse hcode hy hK (by rw [hT]; exact hcB) hoB hclB hg (hsize.trans hml.symm) (argsL := As) (rest := rest) (fun sig h => hn.trans (hlen sig h)) hstack hW (by rw [hb]; exact hdg)
    (fun vm₁ hW₁ => ⟨hf.1, hf.2, hPc (T.setVm vm₁) hT hW₁⟩) with ⟨v, vm₁, ⟨U', l2, c2, s2⟩, hW₁, X', ⟨g', mk, t, L, e1, e2, hq, h1, hL, h2, h3⟩, st⟩ | ⟨q, vm₁, ⟨U', l2, c2, s2⟩, hW₁, X', ⟨g', mk, t, L, E, ce, e1, e2, hq, hce, hcv, hcl, h1, hL, h2, h3⟩, st⟩
  · dsimp only [Pt.U, Pt.locs, Pt.cells, Pt.slots] at X' e1 e2 h1 h2 h3 st
    subst h1; subst h2; subst h3
    exact Or.inl ⟨v, (T.setVm vm₁).calling g' mk (Value.ref b :: As).toArray, t, U', L, hT, X', hL, e1, e2, hq, st⟩
  · dsimp only [Pt.U, Pt.locs, Pt.cells, Pt.slots] at X' e1 e2 h1 h2 h3 st hcl
    subst h1; subst h2; subst h3
    exact Or.inr ⟨q, (T.setVm vm₁).calling g' mk (Value.ref b :: As).toArray, t, U', L, E, ce, hT, X', hL, e1, e2, hq, hce, hcv, vx_cls hW₁ hcl, st⟩
theorem vx_runSX {hh : List (Nat × Nat × Nat × Nat)} (S : CallFix p m c cc nL s args Ts own) (hM : vx_Met l y ws rm Pc Qc XC mc ms free) (cw : vx_CSW R s args own index y bytes maxL ret hh ws rm mc ms n) (hp : PreS s H Pc As)
    (hg : g.method = m) (hn : As.length = n) (hsize : g.locals.size = nL) (hstack : g.stack = As.reverse ++ rest) (hW : 2 * g.monitorRoom + (rest.map fun v => v.category).sum ≤ 8) (hdg : decode cc g.pc = .ok (.invokestatic index, 3)) (hf : cells + mc ≤ R.cells ∧ slots + ms ≤ R.slots) :
    vx_Run p l e R s m args below meth c H locs cells slots mc ms g rest (Qc As.toArray) XC free := by
  obtain ⟨⟨hrc, hrs, hfr, hlo, hws, hcw⟩, hcode, hini, hy, hlen, hl, hstt⟩ := cw
  have hK : vx_Back l R p e below s args y 3 8 (PreOf R mc ms Pc) (PostOf Qc mc ms free) (vx_Post XC mc ms free) := vx_backW (hh := hh) (bytes := bytes) (maxL := maxL) (ret := ret) hM hp.1 hrc hrs hfr hlo hws hcw (fun a' U hW => word_at hW (Or.inl (by first | rfl | simp [Cond.onTables, Cond.keeps, Cond.steady])) hini)
  obtain ⟨hx, hb, hml, ho, -⟩ := S
  intro T hT X
  rcases vx_callSX X hx (hh := hh) (bytes := bytes) (maxL := maxL) (ret := ret) ho hl hstt hini hcode hy hK hg (hsize.trans hml.symm) (argsL := As) (rest := rest) (fun sig h => hn.trans (hlen sig h)) hstack hW (by rw [hb]; exact hdg)
    (fun vm₁ hW₁ => ⟨hf.1, hf.2, hp.2 (T.setVm vm₁) hT hW₁⟩) with ⟨v, vm₁, ⟨U', l2, c2, s2⟩, hW₁, X', ⟨g', mk, t, L, e1, e2, hq, h1, hL, h2, h3⟩, st⟩ | ⟨q, vm₁, ⟨U', l2, c2, s2⟩, hW₁, X', ⟨g', mk, t, L, E, ce, e1, e2, hq, hce, hcv, hcl, h1, hL, h2, h3⟩, st⟩
  · dsimp only [Pt.U, Pt.locs, Pt.cells, Pt.slots] at X' e1 e2 h1 h2 h3 st
    subst h1; subst h2; subst h3
    exact Or.inl ⟨v, (T.setVm vm₁).calling g' mk As.toArray, t, U', L, hT, X', hL, e1, e2, hq, st⟩
  · dsimp only [Pt.U, Pt.locs, Pt.cells, Pt.slots] at X' e1 e2 h1 h2 h3 st hcl
    subst h1; subst h2; subst h3
    exact Or.inr ⟨q, (T.setVm vm₁).calling g' mk As.toArray, t, U', L, E, ce, hT, X', hL, e1, e2, hq, hce, hcv, vx_cls hW₁ hcl, st⟩
end
end VXH
theorem vx_ofWH {l : Launch} {y : MethodName} {ws ws' : List Cond} {rm : Room} {Pc : Array Value → State → Prop} {Qc : Array Value → State → Outcome → State → Prop} {XC : String → State → State → Prop} {mc ms : Nat} {free : Addr → Prop} {cc : ByteArray} {maxL : Nat} {ret : Option FieldType} {hh : List (Nat × Nat × Nat × Nat)}
    (hy : plainName y.cls = true) (hw : ws = Cond.codeWith y cc maxL ret hh :: ws')
    (body : ∀ p e s m args below meth c s₁, BodyLoose p l y (headSpec ws rm) cc maxL ret e s m args below meth c s₁ → c.maxLocals = maxL → Pc args s →
      W p l e (headSpec ws rm).room s m args below meth c s.heap [] 0 0 (vx_MQ below Qc XC args s mc ms free) (entryFrame m args maxL)) : vx_Met l y ws rm Pc Qc XC mc ms free := by
  refine MetFree.of_bodyS (code := cc) (maxLocals := maxL) (ret := ret) hy ?_ ?_
  · intro args s m h hn
    obtain ⟨m9, meth, c, hn9, h1, h2, h3, h4, -, h5, h6, -⟩ := Cond.codeWith_spec (atoms_spec (ws := ws) h _ (by rw [hw]; exact List.mem_cons_self))
    cases hn.symm.trans hn9
    exact ⟨meth, c, h1, h2, h3, h4, h5, h6⟩
  · intro p e s m args below meth c s₁ B hml hP _
    have hh0 : s₁.heap = s.heap := by rw [B.state]; rfl
    obtain ⟨t, a1, o, b1, b2, b3⟩ := body p e s m args below meth c s₁ B hml hP s₁ hh0 (Stand.of_body B)
    exact ⟨t, o, a1, b1, b2, b3⟩
/-! ===== END ===== -/
end
section
def RX0 : String := "TwoFacedTiles$Board"
def TX0 : u_T := fun k => match k with
  | 0 => ("TwoFacedTiles$Board", "rows", "I", false)
  | 1 => ("TwoFacedTiles$Board", "columns", "I", false)
  | 2 => ("TwoFacedTiles$Board", "rule", "I", false)
  | 3 => ("TwoFacedTiles$Board", "tiles", "I", false)
  | 4 => ("TwoFacedTiles$Board", "fixed", "I", false)
  | 5 => ("TwoFacedTiles$Board", "placings", "[I", true)
  | 6 => ("TwoFacedTiles$Board", "places", "[I", true)
  | _ => ("TwoFacedTiles$Board", "looks", "[I", true)
def tyX0 : Nat → FieldType := fun k => match k with
  | 0 => .int
  | 1 => .int
  | 2 => .int
  | 3 => .int
  | 4 => .int
  | 5 => .array .int
  | 6 => .array .int
  | _ => .array .int
abbrev wsX00 : List Cond := u_ws RX0 TX0 8
theorem nmX0 : ∀ a, a < 8 → ∀ b, b < 8 → a ≠ b → (TX0 a).2.1 ≠ (TX0 b).2.1 := by decide +kernel
theorem tyX0_ok : ∀ k, k < 8 → parseFieldDescriptor (TX0 k).2.2.1 = some (tyX0 k) := by decide +kernel
abbrev cX0_init : ByteArray := prog_2_method_1_code
def yX0_init : MethodName := ⟨RX0, "<init>", "()V"⟩
abbrev cX0_copyFrom : ByteArray := prog_2_method_2_code
def yX0_copyFrom : MethodName := ⟨RX0, "copyFrom", "(LTwoFacedTiles$Board;)V"⟩
abbrev cX0_makeEmpty : ByteArray := prog_2_method_3_code
def yX0_makeEmpty : MethodName := ⟨RX0, "makeEmpty", "(II)V"⟩
abbrev cX0_cells : ByteArray := prog_2_method_4_code
def yX0_cells : MethodName := ⟨RX0, "cells", "()I"⟩
abbrev cX0_hasCell : ByteArray := prog_2_method_5_code
def yX0_hasCell : MethodName := ⟨RX0, "hasCell", "(I)Z"⟩
abbrev cX0_hasPlacing : ByteArray := prog_2_method_6_code
def yX0_hasPlacing : MethodName := ⟨RX0, "hasPlacing", "(I)Z"⟩
abbrev cX0_isEmpty : ByteArray := prog_2_method_7_code
def yX0_isEmpty : MethodName := ⟨RX0, "isEmpty", "(I)Z"⟩
abbrev cX0_isFixed : ByteArray := prog_2_method_8_code
def yX0_isFixed : MethodName := ⟨RX0, "isFixed", "(I)Z"⟩
abbrev cX0_isLaid : ByteArray := prog_2_method_9_code
def yX0_isLaid : MethodName := ⟨RX0, "isLaid", "(I)Z"⟩
abbrev cX0_lookIn : ByteArray := prog_2_method_10_code
def yX0_lookIn : MethodName := ⟨RX0, "lookIn", "(I)I"⟩
abbrev cX0_emptyCells : ByteArray := prog_2_method_11_code
def yX0_emptyCells : MethodName := ⟨RX0, "emptyCells", "()I"⟩
abbrev cX0_neighbor : ByteArray := prog_2_method_12_code
def yX0_neighbor : MethodName := ⟨RX0, "neighbor", "(II)I"⟩
abbrev cX0_put : ByteArray := prog_2_method_13_code
def yX0_put : MethodName := ⟨RX0, "put", "(II)V"⟩
abbrev cX0_remove : ByteArray := prog_2_method_14_code
def yX0_remove : MethodName := ⟨RX0, "remove", "(I)V"⟩
abbrev cX0_removeAllBut : ByteArray := prog_2_method_15_code
def yX0_removeAllBut : MethodName := ⟨RX0, "removeAllBut", "(I)I"⟩
abbrev cX0_mirror : ByteArray := prog_2_method_16_code
def yX0_mirror : MethodName := ⟨RX0, "mirror", "()V"⟩
abbrev cX0_swapTurnedOver : ByteArray := prog_2_method_17_code
def yX0_swapTurnedOver : MethodName := ⟨RX0, "swapTurnedOver", "(II)V"⟩
abbrev cX0_addFaces : ByteArray := prog_2_method_18_code
def yX0_addFaces : MethodName := ⟨RX0, "addFaces", "(II)V"⟩
abbrev cX0_makeWays : ByteArray := prog_2_method_19_code
def yX0_makeWays : MethodName := ⟨RX0, "makeWays", "(I)V"⟩
abbrev cX0_cutTiles : ByteArray := prog_2_method_20_code
def yX0_cutTiles : MethodName := ⟨RX0, "cutTiles", "(LTwoFacedTiles$Draws;)V"⟩
abbrev cX0_cutSide : ByteArray := prog_2_method_21_code
def yX0_cutSide : MethodName := ⟨RX0, "cutSide", "(IILTwoFacedTiles$Draws;)V"⟩
abbrev cX0_faceOf : ByteArray := prog_2_method_22_code
def yX0_faceOf : MethodName := ⟨RX0, "faceOf", "(II)I"⟩
abbrev cX0_lowestLike : ByteArray := prog_2_method_23_code
def yX0_lowestLike : MethodName := ⟨RX0, "lowestLike", "(I)I"⟩
abbrev cX0_pairsAlike : ByteArray := prog_2_method_24_code
def yX0_pairsAlike : MethodName := ⟨RX0, "pairsAlike", "(I)I"⟩
abbrev cX0_isAlike : ByteArray := prog_2_method_25_code
def yX0_isAlike : MethodName := ⟨RX0, "isAlike", "(III)Z"⟩
def RX1 : String := "TwoFacedTiles$Draws"
def TX1 : u_T := fun k => match k with
  | 0 => ("TwoFacedTiles$Draws", "seed", "I", false)
  | 1 => ("TwoFacedTiles$Draws", "colors", "I", false)
  | _ => ("TwoFacedTiles$Draws", "rest", "I", false)
def tyX1 : Nat → FieldType := fun k => match k with
  | 0 => .int
  | 1 => .int
  | _ => .int
abbrev wsX10 : List Cond := u_ws RX1 TX1 3
theorem nmX1 : ∀ a, a < 3 → ∀ b, b < 3 → a ≠ b → (TX1 a).2.1 ≠ (TX1 b).2.1 := by decide +kernel
theorem tyX1_ok : ∀ k, k < 3 → parseFieldDescriptor (TX1 k).2.2.1 = some (tyX1 k) := by decide +kernel
abbrev cX1_init : ByteArray := prog_3_method_1_code
def yX1_init : MethodName := ⟨RX1, "<init>", "()V"⟩
abbrev cX1_start : ByteArray := prog_3_method_2_code
def yX1_start : MethodName := ⟨RX1, "start", "(II)V"⟩
abbrev cX1_next : ByteArray := prog_3_method_3_code
def yX1_next : MethodName := ⟨RX1, "next", "()I"⟩
def RX2 : String := "TwoFacedTiles$History"
def TX2 : u_T := fun k => match k with
  | 0 => ("TwoFacedTiles$History", "states", "[LTwoFacedTiles$Board;", true)
  | 1 => ("TwoFacedTiles$History", "oldest", "I", false)
  | _ => ("TwoFacedTiles$History", "kept", "I", false)
def tyX2 : Nat → FieldType := fun k => match k with
  | 0 => .array (.object "TwoFacedTiles$Board")
  | 1 => .int
  | _ => .int
abbrev wsX20 : List Cond := u_ws RX2 TX2 3
theorem nmX2 : ∀ a, a < 3 → ∀ b, b < 3 → a ≠ b → (TX2 a).2.1 ≠ (TX2 b).2.1 := by decide +kernel
theorem tyX2_ok : ∀ k, k < 3 → parseFieldDescriptor (TX2 k).2.2.1 = some (tyX2 k) := by decide +kernel
abbrev cX2_init : ByteArray := prog_4_method_1_code
def yX2_init : MethodName := ⟨RX2, "<init>", "()V"⟩
abbrev cX2_save : ByteArray := prog_4_method_2_code
def yX2_save : MethodName := ⟨RX2, "save", "(LTwoFacedTiles$Board;)V"⟩
abbrev cX2_restore : ByteArray := prog_4_method_3_code
def yX2_restore : MethodName := ⟨RX2, "restore", "(LTwoFacedTiles$Board;)V"⟩
def RX3 : String := "TwoFacedTiles$Needs"
def TX3 : u_T := fun k => match k with
  | 0 => ("TwoFacedTiles$Needs", "mustBeZero", "I", false)
  | 1 => ("TwoFacedTiles$Needs", "mustAgree", "I", false)
  | 2 => ("TwoFacedTiles$Needs", "wanted", "I", false)
  | _ => ("TwoFacedTiles$Needs", "forbiddenZero", "Z", false)
def tyX3 : Nat → FieldType := fun k => match k with
  | 0 => .int
  | 1 => .int
  | 2 => .int
  | _ => .boolean
abbrev wsX30 : List Cond := u_ws RX3 TX3 4
theorem nmX3 : ∀ a, a < 4 → ∀ b, b < 4 → a ≠ b → (TX3 a).2.1 ≠ (TX3 b).2.1 := by decide +kernel
theorem tyX3_ok : ∀ k, k < 4 → parseFieldDescriptor (TX3 k).2.2.1 = some (tyX3 k) := by decide +kernel
abbrev cX3_init : ByteArray := prog_5_method_1_code
def yX3_init : MethodName := ⟨RX3, "<init>", "()V"⟩
abbrev cX3_read : ByteArray := prog_5_method_2_code
def yX3_read : MethodName := ⟨RX3, "read", "(LTwoFacedTiles$Board;I)V"⟩
abbrev cX3_readNeighbor : ByteArray := prog_5_method_3_code
def yX3_readNeighbor : MethodName := ⟨RX3, "readNeighbor", "(III)V"⟩
abbrev cX3_ruledColors : ByteArray := prog_5_method_4_code
def yX3_ruledColors : MethodName := ⟨RX3, "ruledColors", "(I)I"⟩
abbrev cX3_reasonAgainst : ByteArray := prog_5_method_5_code
def yX3_reasonAgainst : MethodName := ⟨RX3, "reasonAgainst", "(I)I"⟩
def RX4 : String := "TwoFacedTiles$Search"
def TX4 : u_T := fun k => match k with
  | 0 => ("TwoFacedTiles$Search", "trial", "LTwoFacedTiles$Board;", true)
  | 1 => ("TwoFacedTiles$Search", "found", "I", false)
  | 2 => ("TwoFacedTiles$Search", "needs", "[LTwoFacedTiles$Needs;", true)
  | 3 => ("TwoFacedTiles$Search", "most", "I", false)
  | 4 => ("TwoFacedTiles$Search", "steps", "I", false)
  | 5 => ("TwoFacedTiles$Search", "tooManySteps", "Z", false)
  | _ => ("TwoFacedTiles$Search", "over", "Z", false)
def tyX4 : Nat → FieldType := fun k => match k with
  | 0 => .object "TwoFacedTiles$Board"
  | 1 => .int
  | 2 => .array (.object "TwoFacedTiles$Needs")
  | 3 => .int
  | 4 => .int
  | 5 => .boolean
  | _ => .boolean
abbrev wsX40 : List Cond := u_ws RX4 TX4 7
theorem nmX4 : ∀ a, a < 7 → ∀ b, b < 7 → a ≠ b → (TX4 a).2.1 ≠ (TX4 b).2.1 := by decide +kernel
theorem tyX4_ok : ∀ k, k < 7 → parseFieldDescriptor (TX4 k).2.2.1 = some (tyX4 k) := by decide +kernel
abbrev cX4_init : ByteArray := prog_6_method_1_code
def yX4_init : MethodName := ⟨RX4, "<init>", "()V"⟩
abbrev cX4_run : ByteArray := prog_6_method_2_code
def yX4_run : MethodName := ⟨RX4, "run", "(LTwoFacedTiles$Board;I)V"⟩
abbrev cX4_result : ByteArray := prog_6_method_4_code
def yX4_result : MethodName := ⟨RX4, "result", "(I)I"⟩
abbrev cX4_runTrial : ByteArray := prog_6_method_5_code
def yX4_runTrial : MethodName := ⟨RX4, "runTrial", "(I)V"⟩
abbrev cX4_fillFrom : ByteArray := prog_6_method_6_code
def yX4_fillFrom : MethodName := ⟨RX4, "fillFrom", "(I)V"⟩
abbrev cX4_tryPlacing : ByteArray := prog_6_method_7_code
def yX4_tryPlacing : MethodName := ⟨RX4, "tryPlacing", "(II)V"⟩
def RX5 : String := "TwoFacedTiles$Text"
def TX5 : u_T := fun k => match k with
  | 0 => ("TwoFacedTiles$Text", "codes", "[I", true)
  | _ => ("TwoFacedTiles$Text", "length", "I", false)
def tyX5 : Nat → FieldType := fun k => match k with
  | 0 => .array .int
  | _ => .int
abbrev wsX50 : List Cond := u_ws RX5 TX5 2
theorem nmX5 : ∀ a, a < 2 → ∀ b, b < 2 → a ≠ b → (TX5 a).2.1 ≠ (TX5 b).2.1 := by decide +kernel
theorem tyX5_ok : ∀ k, k < 2 → parseFieldDescriptor (TX5 k).2.2.1 = some (tyX5 k) := by decide +kernel
abbrev cX5_init : ByteArray := prog_7_method_1_code
def yX5_init : MethodName := ⟨RX5, "<init>", "()V"⟩
def RX6 : String := "TwoFacedTiles"
def TX6 : u_T := fun k => match k with
  | 0 => ("TwoFacedTiles", "board", "LTwoFacedTiles$Board;", true)
  | 1 => ("TwoFacedTiles", "history", "LTwoFacedTiles$History;", true)
  | 2 => ("TwoFacedTiles", "text", "LTwoFacedTiles$Text;", true)
  | 3 => ("TwoFacedTiles", "needs", "LTwoFacedTiles$Needs;", true)
  | 4 => ("TwoFacedTiles", "search", "LTwoFacedTiles$Search;", true)
  | _ => ("TwoFacedTiles", "draws", "LTwoFacedTiles$Draws;", true)
def tyX6 : Nat → FieldType := fun k => match k with
  | 0 => .object "TwoFacedTiles$Board"
  | 1 => .object "TwoFacedTiles$History"
  | 2 => .object "TwoFacedTiles$Text"
  | 3 => .object "TwoFacedTiles$Needs"
  | 4 => .object "TwoFacedTiles$Search"
  | _ => .object "TwoFacedTiles$Draws"
abbrev wsX60 : List Cond := u_ws RX6 TX6 6
theorem nmX6 : ∀ a, a < 6 → ∀ b, b < 6 → a ≠ b → (TX6 a).2.1 ≠ (TX6 b).2.1 := by decide +kernel
theorem tyX6_ok : ∀ k, k < 6 → parseFieldDescriptor (TX6 k).2.2.1 = some (tyX6 k) := by decide +kernel
abbrev cX6_init : ByteArray := prog_1_method_1_code
def yX6_init : MethodName := ⟨RX6, "<init>", "()V"⟩
abbrev cX6_begin : ByteArray := prog_1_method_2_code
def yX6_begin : MethodName := ⟨RX6, "begin", "(II)I"⟩
abbrev cX6_addTile : ByteArray := prog_1_method_3_code
def yX6_addTile : MethodName := ⟨RX6, "addTile", "(II)I"⟩
abbrev cX6_dropTile : ByteArray := prog_1_method_4_code
def yX6_dropTile : MethodName := ⟨RX6, "dropTile", "()I"⟩
abbrev cX6_setRule : ByteArray := prog_1_method_5_code
def yX6_setRule : MethodName := ⟨RX6, "setRule", "(I)I"⟩
abbrev cX6_cut : ByteArray := prog_1_method_6_code
def yX6_cut : MethodName := ⟨RX6, "cut", "(II)I"⟩
abbrev cX6_lay : ByteArray := prog_1_method_7_code
def yX6_lay : MethodName := ⟨RX6, "lay", "(II)I"⟩
abbrev cX6_take : ByteArray := prog_1_method_8_code
def yX6_take : MethodName := ⟨RX6, "take", "(I)I"⟩
abbrev cX6_fix : ByteArray := prog_1_method_9_code
def yX6_fix : MethodName := ⟨RX6, "fix", "(I)I"⟩
abbrev cX6_clear : ByteArray := prog_1_method_10_code
def yX6_clear : MethodName := ⟨RX6, "clear", "()I"⟩
abbrev cX6_turnOver : ByteArray := prog_1_method_11_code
def yX6_turnOver : MethodName := ⟨RX6, "turnOver", "()I"⟩
abbrev cX6_solve : ByteArray := prog_1_method_12_code
def yX6_solve : MethodName := ⟨RX6, "solve", "()I"⟩
abbrev cX6_undo : ByteArray := prog_1_method_17_code
def yX6_undo : MethodName := ⟨RX6, "undo", "()I"⟩
abbrev cX6_cell : ByteArray := prog_1_method_18_code
def yX6_cell : MethodName := ⟨RX6, "cell", "(II)I"⟩
abbrev cX6_color : ByteArray := prog_1_method_19_code
def yX6_color : MethodName := ⟨RX6, "color", "(IIZ)I"⟩
abbrev cX6_tile : ByteArray := prog_1_method_20_code
def yX6_tile : MethodName := ⟨RX6, "tile", "(II)I"⟩
abbrev cX6_count : ByteArray := prog_1_method_21_code
def yX6_count : MethodName := ⟨RX6, "count", "(I)I"⟩
abbrev cX6_layings : ByteArray := prog_1_method_22_code
def yX6_layings : MethodName := ⟨RX6, "layings", "(II)I"⟩
abbrev cX6_hint : ByteArray := prog_1_method_23_code
def yX6_hint : MethodName := ⟨RX6, "hint", "()I"⟩
abbrev cX6_why : ByteArray := prog_1_method_25_code
def yX6_why : MethodName := ⟨RX6, "why", "(II)I"⟩
abbrev cX6_fitting : ByteArray := prog_1_method_26_code
def yX6_fitting : MethodName := ⟨RX6, "fitting", "()D"⟩
abbrev cX6_requireCell : ByteArray := prog_1_method_28_code
def yX6_requireCell : MethodName := ⟨RX6, "requireCell", "(I)V"⟩
abbrev cX6_requirePlacing : ByteArray := prog_1_method_29_code
def yX6_requirePlacing : MethodName := ⟨RX6, "requirePlacing", "(II)V"⟩
abbrev cX6_reason : ByteArray := prog_1_method_30_code
def yX6_reason : MethodName := ⟨RX6, "reason", "(II)I"⟩
abbrev cX6_cellProperty : ByteArray := prog_1_method_31_code
def yX6_cellProperty : MethodName := ⟨RX6, "cellProperty", "(II)I"⟩
abbrev cX6_possibleCount : ByteArray := prog_1_method_32_code
def yX6_possibleCount : MethodName := ⟨RX6, "possibleCount", "(I)I"⟩
abbrev cX6_firstPossible : ByteArray := prog_1_method_33_code
def yX6_firstPossible : MethodName := ⟨RX6, "firstPossible", "(I)I"⟩
abbrev cX6_meetsNeeds : ByteArray := prog_1_method_34_code
def yX6_meetsNeeds : MethodName := ⟨RX6, "meetsNeeds", "(I)Z"⟩
abbrev cX6_colorAt : ByteArray := prog_1_method_35_code
def yX6_colorAt : MethodName := ⟨RX6, "colorAt", "(IIZ)I"⟩
abbrev cX6_tileProperty : ByteArray := prog_1_method_36_code
def yX6_tileProperty : MethodName := ⟨RX6, "tileProperty", "(II)I"⟩
abbrev cX6_number : ByteArray := prog_1_method_37_code
def yX6_number : MethodName := ⟨RX6, "number", "(I)I"⟩
abbrev cX6_misfits : ByteArray := prog_1_method_38_code
def yX6_misfits : MethodName := ⟨RX6, "misfits", "()I"⟩
abbrev cX6_bestStep : ByteArray := prog_1_method_39_code
def yX6_bestStep : MethodName := ⟨RX6, "bestStep", "()I"⟩
abbrev cX6_fittingPart : ByteArray := prog_1_method_40_code
def yX6_fittingPart : MethodName := ⟨RX6, "fittingPart", "()D"⟩
abbrev cX6_colorsAt : ByteArray := prog_1_method_44_code
def yX6_colorsAt : MethodName := ⟨RX6, "colorsAt", "(II)I"⟩
abbrev cX6_opposite : ByteArray := prog_1_method_45_code
def yX6_opposite : MethodName := ⟨RX6, "opposite", "(I)I"⟩
abbrev cX6_seenFromBehind : ByteArray := prog_1_method_46_code
def yX6_seenFromBehind : MethodName := ⟨RX6, "seenFromBehind", "(I)I"⟩
abbrev cX6_turned : ByteArray := prog_1_method_47_code
def yX6_turned : MethodName := ⟨RX6, "turned", "(I)I"⟩
abbrev cX6_turnedOver : ByteArray := prog_1_method_48_code
def yX6_turnedOver : MethodName := ⟨RX6, "turnedOver", "(I)I"⟩
abbrev cX6_lookOfFaces : ByteArray := prog_1_method_49_code
def yX6_lookOfFaces : MethodName := ⟨RX6, "lookOfFaces", "(II)I"⟩
abbrev cX6_digit : ByteArray := prog_1_method_50_code
def yX6_digit : MethodName := ⟨RX6, "digit", "(II)I"⟩
abbrev cX6_placingTurnedOver : ByteArray := prog_1_method_51_code
def yX6_placingTurnedOver : MethodName := ⟨RX6, "placingTurnedOver", "(I)I"⟩
def RX7 : String := "TwoFacedTilesModel"
def TX7 : u_T := fun k => match k with
  | _ => ("", "", "", false)
def tyX7 : Nat → FieldType := fun k => match k with
  | _ => .int
abbrev wsX70 : List Cond := u_ws RX7 TX7 0
theorem nmX7 : ∀ a, a < 0 → ∀ b, b < 0 → a ≠ b → (TX7 a).2.1 ≠ (TX7 b).2.1 := by decide +kernel
theorem tyX7_ok : ∀ k, k < 0 → parseFieldDescriptor (TX7 k).2.2.1 = some (tyX7 k) := by decide +kernel
def RJ6 : String := "java/lang/Integer"
def TJ6 : u_T := fun k => match k with
  | _ => ("", "", "", false)
def tyJ6 : Nat → FieldType := fun k => match k with
  | _ => .int
abbrev wsJ60 : List Cond := u_ws RJ6 TJ6 0
theorem nmJ6 : ∀ a, a < 0 → ∀ b, b < 0 → a ≠ b → (TJ6 a).2.1 ≠ (TJ6 b).2.1 := by decide +kernel
theorem tyJ6_ok : ∀ k, k < 0 → parseFieldDescriptor (TJ6 k).2.2.1 = some (tyJ6 k) := by decide +kernel
abbrev cJ6_bitCount_0f7a4 : ByteArray := prog_14_method_49_code
def yJ6_bitCount_0f7a4 : MethodName := ⟨RJ6, "bitCount", "(I)I"⟩
def RJ0 : String := "java/lang/String"
def TJ0 : u_T := fun k => match k with
  | _ => ("", "", "", false)
def tyJ0 : Nat → FieldType := fun k => match k with
  | _ => .int
abbrev wsJ00 : List Cond := u_ws RJ0 TJ0 0
theorem nmJ0 : ∀ a, a < 0 → ∀ b, b < 0 → a ≠ b → (TJ0 a).2.1 ≠ (TJ0 b).2.1 := by decide +kernel
theorem tyJ0_ok : ∀ k, k < 0 → parseFieldDescriptor (TJ0 k).2.2.1 = some (tyJ0 k) := by decide +kernel
def RJ10 : String := "java/lang/System"
def TJ10 : u_T := fun k => match k with
  | _ => ("", "", "", false)
def tyJ10 : Nat → FieldType := fun k => match k with
  | _ => .int
abbrev wsJ100 : List Cond := u_ws RJ10 TJ10 0
theorem nmJ10 : ∀ a, a < 0 → ∀ b, b < 0 → a ≠ b → (TJ10 a).2.1 ≠ (TJ10 b).2.1 := by decide +kernel
theorem tyJ10_ok : ∀ k, k < 0 → parseFieldDescriptor (TJ10 k).2.2.1 = some (tyJ10 k) := by decide +kernel
def RL : String := "TwoFacedTilesLaw"
abbrev cL_cell : ByteArray := method_2_code
def yL_cell : MethodName := ⟨RL, "cell", "([II)I"⟩
abbrev cL_at : ByteArray := method_3_code
def yL_at : MethodName := ⟨RL, "at", "(II)I"⟩
abbrev cL_color : ByteArray := method_4_code
def yL_color : MethodName := ⟨RL, "color", "(IIZ[I)I"⟩
abbrev cL_beyond : ByteArray := method_5_code
def yL_beyond : MethodName := ⟨RL, "beyond", "(II[I)I"⟩
abbrev cL_fits : ByteArray := method_6_code
def yL_fits : MethodName := ⟨RL, "fits", "(II[I[I)I"⟩
abbrev cL_where : ByteArray := method_7_code
def yL_where : MethodName := ⟨RL, "where", "(I[I)I"⟩
abbrev cL_why : ByteArray := method_8_code
def yL_why : MethodName := ⟨RL, "why", "(II[I[I)I"⟩
abbrev cL_search : ByteArray := method_9_code
def yL_search : MethodName := ⟨RL, "search", "(I[I[I[I)V"⟩
abbrev cL_told : ByteArray := method_10_code
def yL_told : MethodName := ⟨RL, "told", "(LTwoFacedTiles;I[I[I)Z"⟩
abbrev cL_cut : ByteArray := method_11_code
def yL_cut : MethodName := ⟨RL, "cut", "(II[I[I)V"⟩
abbrev cL_act : ByteArray := method_12_code
def yL_act : MethodName := ⟨RL, "act", "(LTwoFacedTiles;III[I[I)Z"⟩
abbrev cL_law : ByteArray := code
def yL_law : MethodName := ⟨RL, "law", "([I)Z"⟩
def wsX0_init : List Cond := .code yX0_init cX0_init 1 none :: ([.methodLink RX0 3 objectInit, .instanceMethod objectInit, .code objectInit ⟨#[0xb1]⟩ 1 none, .fieldLink RX0 9 "TwoFacedTiles$Board" "rows" "I", .fieldLink RX0 15 "TwoFacedTiles$Board" "columns" "I", .fieldLink RX0 18 "TwoFacedTiles$Board" "rule" "I", .fieldLink RX0 21 "TwoFacedTiles$Board" "tiles" "I", .fieldLink RX0 24 "TwoFacedTiles$Board" "fixed" "I", .arrayClass .int, .fieldLink RX0 27 "TwoFacedTiles$Board" "placings" "[I", .fieldLink RX0 31 "TwoFacedTiles$Board" "places" "[I", .fieldLink RX0 34 "TwoFacedTiles$Board" "looks" "[I"] ++ wsX00)
def wsX0_copyFrom : List Cond := .code yX0_copyFrom cX0_copyFrom 2 none :: ([.fieldLink RX0 9 "TwoFacedTiles$Board" "rows" "I", .fieldLink RX0 15 "TwoFacedTiles$Board" "columns" "I", .fieldLink RX0 18 "TwoFacedTiles$Board" "rule" "I", .fieldLink RX0 21 "TwoFacedTiles$Board" "tiles" "I", .fieldLink RX0 24 "TwoFacedTiles$Board" "fixed" "I", .fieldLink RX0 27 "TwoFacedTiles$Board" "placings" "[I", .methodLink RX0 37 arraycopyName, .native arraycopyName, .static arraycopyName, .initialized "java/lang/System", .fieldLink RX0 31 "TwoFacedTiles$Board" "places" "[I", .fieldLink RX0 34 "TwoFacedTiles$Board" "looks" "[I"] ++ wsX00)
def wsX0_makeEmpty : List Cond := .code yX0_makeEmpty cX0_makeEmpty 4 none :: ([.fieldLink RX0 9 "TwoFacedTiles$Board" "rows" "I", .fieldLink RX0 15 "TwoFacedTiles$Board" "columns" "I", .fieldLink RX0 24 "TwoFacedTiles$Board" "fixed" "I", .fieldLink RX0 27 "TwoFacedTiles$Board" "placings" "[I", .fieldLink RX0 31 "TwoFacedTiles$Board" "places" "[I"] ++ wsX00)
def wsX0_cells : List Cond := .code yX0_cells cX0_cells 1 (some .int) :: ([.fieldLink RX0 9 "TwoFacedTiles$Board" "rows" "I", .fieldLink RX0 15 "TwoFacedTiles$Board" "columns" "I"] ++ wsX00)
def wsX0_hasCell : List Cond := .code yX0_hasCell cX0_hasCell 2 (some .boolean) :: ([.methodLink RX0 43 yX0_cells, .instanceMethod yX0_cells, .selects RX0 yX0_cells yX0_cells, .initialized RX0, .code yX0_cells cX0_cells 1 (some .int), .fieldLink RX0 9 "TwoFacedTiles$Board" "rows" "I", .fieldLink RX0 15 "TwoFacedTiles$Board" "columns" "I"] ++ wsX00)
def wsX0_hasPlacing : List Cond := .code yX0_hasPlacing cX0_hasPlacing 2 (some .boolean) :: ([.fieldLink RX0 21 "TwoFacedTiles$Board" "tiles" "I"] ++ wsX00)
def wsX0_isEmpty : List Cond := .code yX0_isEmpty cX0_isEmpty 2 (some .boolean) :: ([.fieldLink RX0 27 "TwoFacedTiles$Board" "placings" "[I"] ++ wsX00)
def wsX0_isFixed : List Cond := .code yX0_isFixed cX0_isFixed 2 (some .boolean) :: ([.fieldLink RX0 24 "TwoFacedTiles$Board" "fixed" "I"] ++ wsX00)
def wsX0_isLaid : List Cond := .code yX0_isLaid cX0_isLaid 2 (some .boolean) :: ([.fieldLink RX0 31 "TwoFacedTiles$Board" "places" "[I"] ++ wsX00)
def wsX0_lookIn : List Cond := .code yX0_lookIn cX0_lookIn 2 (some .int) :: ([.fieldLink RX0 34 "TwoFacedTiles$Board" "looks" "[I", .fieldLink RX0 27 "TwoFacedTiles$Board" "placings" "[I"] ++ wsX00)
def wsX0_emptyCells : List Cond := .code yX0_emptyCells cX0_emptyCells 3 (some .int) :: ([.methodLink RX0 43 yX0_cells, .instanceMethod yX0_cells, .selects RX0 yX0_cells yX0_cells, .initialized RX0, .code yX0_cells cX0_cells 1 (some .int), .fieldLink RX0 9 "TwoFacedTiles$Board" "rows" "I", .fieldLink RX0 15 "TwoFacedTiles$Board" "columns" "I", .methodLink RX0 47 yX0_isEmpty, .instanceMethod yX0_isEmpty, .selects RX0 yX0_isEmpty yX0_isEmpty, .code yX0_isEmpty cX0_isEmpty 2 (some .boolean), .fieldLink RX0 27 "TwoFacedTiles$Board" "placings" "[I"] ++ wsX00)
def wsX0_neighbor : List Cond := .code yX0_neighbor cX0_neighbor 4 (some .int) :: ([.fieldLink RX0 15 "TwoFacedTiles$Board" "columns" "I", .methodLink RX0 43 yX0_cells, .instanceMethod yX0_cells, .selects RX0 yX0_cells yX0_cells, .initialized RX0, .code yX0_cells cX0_cells 1 (some .int), .fieldLink RX0 9 "TwoFacedTiles$Board" "rows" "I"] ++ wsX00)
def wsX0_put : List Cond := .code yX0_put cX0_put 3 none :: ([.fieldLink RX0 27 "TwoFacedTiles$Board" "placings" "[I", .fieldLink RX0 31 "TwoFacedTiles$Board" "places" "[I"] ++ wsX00)
def wsX0_remove : List Cond := .code yX0_remove cX0_remove 2 none :: ([.fieldLink RX0 31 "TwoFacedTiles$Board" "places" "[I", .fieldLink RX0 27 "TwoFacedTiles$Board" "placings" "[I"] ++ wsX00)
def wsX0_removeAllBut : List Cond := .code yX0_removeAllBut cX0_removeAllBut 4 (some .int) :: ([.methodLink RX0 43 yX0_cells, .instanceMethod yX0_cells, .selects RX0 yX0_cells yX0_cells, .initialized RX0, .code yX0_cells cX0_cells 1 (some .int), .fieldLink RX0 9 "TwoFacedTiles$Board" "rows" "I", .fieldLink RX0 15 "TwoFacedTiles$Board" "columns" "I", .methodLink RX0 47 yX0_isEmpty, .instanceMethod yX0_isEmpty, .selects RX0 yX0_isEmpty yX0_isEmpty, .code yX0_isEmpty cX0_isEmpty 2 (some .boolean), .fieldLink RX0 27 "TwoFacedTiles$Board" "placings" "[I", .methodLink RX0 51 yX0_remove, .instanceMethod yX0_remove, .selects RX0 yX0_remove yX0_remove, .code yX0_remove cX0_remove 2 none, .fieldLink RX0 31 "TwoFacedTiles$Board" "places" "[I"] ++ wsX00)
def wsX6_placingTurnedOver : List Cond := .code yX6_placingTurnedOver cX6_placingTurnedOver 4 (some .int) :: ([])
def wsX0_swapTurnedOver : List Cond := .code yX0_swapTurnedOver cX0_swapTurnedOver 4 none :: ([.fieldLink RX0 27 "TwoFacedTiles$Board" "placings" "[I", .static yX6_placingTurnedOver, .initialized RX6, .code yX6_placingTurnedOver cX6_placingTurnedOver 4 (some .int)] ++ wsX00)
def wsX0_mirror : List Cond := .code yX0_mirror cX0_mirror 6 none :: ([.fieldLink RX0 24 "TwoFacedTiles$Board" "fixed" "I", .fieldLink RX0 9 "TwoFacedTiles$Board" "rows" "I", .fieldLink RX0 15 "TwoFacedTiles$Board" "columns" "I", .fieldLink RX0 31 "TwoFacedTiles$Board" "places" "[I", .fieldLink RX0 27 "TwoFacedTiles$Board" "placings" "[I", .methodLink RX0 55 yX0_swapTurnedOver, .instanceMethod yX0_swapTurnedOver, .selects RX0 yX0_swapTurnedOver yX0_swapTurnedOver, .initialized RX0, .code yX0_swapTurnedOver cX0_swapTurnedOver 4 none, .static yX6_placingTurnedOver, .initialized RX6, .code yX6_placingTurnedOver cX6_placingTurnedOver 4 (some .int), .methodLink RX0 43 yX0_cells, .instanceMethod yX0_cells, .selects RX0 yX0_cells yX0_cells, .code yX0_cells cX0_cells 1 (some .int), .methodLink RX0 47 yX0_isEmpty, .instanceMethod yX0_isEmpty, .selects RX0 yX0_isEmpty yX0_isEmpty, .code yX0_isEmpty cX0_isEmpty 2 (some .boolean)] ++ wsX00)
def wsX6_digit : List Cond := .code yX6_digit cX6_digit 4 (some .int) :: ([])
def wsX6_seenFromBehind : List Cond := .code yX6_seenFromBehind cX6_seenFromBehind 1 (some .int) :: ([])
def wsX6_lookOfFaces : List Cond := .code yX6_lookOfFaces cX6_lookOfFaces 6 (some .int) :: ([.methodLink RX6 325 yX6_digit, .static yX6_digit, .initialized RX6, .code yX6_digit cX6_digit 4 (some .int), .methodLink RX6 322 yX6_seenFromBehind, .static yX6_seenFromBehind, .code yX6_seenFromBehind cX6_seenFromBehind 1 (some .int)])
def wsX6_colorsAt : List Cond := .code yX6_colorsAt cX6_colorsAt 2 (some .int) :: ([.constant RX6 321 (983055)])
def wsX6_turnedOver : List Cond := .code yX6_turnedOver cX6_turnedOver 5 (some .int) :: ([.methodLink RX6 296 yX6_colorsAt, .static yX6_colorsAt, .initialized RX6, .code yX6_colorsAt cX6_colorsAt 2 (some .int), .constant RX6 321 (983055), .methodLink RX6 322 yX6_seenFromBehind, .static yX6_seenFromBehind, .code yX6_seenFromBehind cX6_seenFromBehind 1 (some .int)])
def wsX6_turned : List Cond := .code yX6_turned cX6_turned 3 (some .int) :: ([.methodLink RX6 296 yX6_colorsAt, .static yX6_colorsAt, .initialized RX6, .code yX6_colorsAt cX6_colorsAt 2 (some .int), .constant RX6 321 (983055)])
def wsX0_makeWays : List Cond := .code yX0_makeWays cX0_makeWays 4 none :: ([.fieldLink RX0 34 "TwoFacedTiles$Board" "looks" "[I", .static yX6_turnedOver, .initialized RX6, .code yX6_turnedOver cX6_turnedOver 5 (some .int), .methodLink RX6 296 yX6_colorsAt, .static yX6_colorsAt, .code yX6_colorsAt cX6_colorsAt 2 (some .int), .constant RX6 321 (983055), .methodLink RX6 322 yX6_seenFromBehind, .static yX6_seenFromBehind, .code yX6_seenFromBehind cX6_seenFromBehind 1 (some .int), .static yX6_turned, .code yX6_turned cX6_turned 3 (some .int)] ++ wsX00)
def wsX0_addFaces : List Cond := .code yX0_addFaces cX0_addFaces 3 none :: ([.fieldLink RX0 34 "TwoFacedTiles$Board" "looks" "[I", .fieldLink RX0 21 "TwoFacedTiles$Board" "tiles" "I", .static yX6_lookOfFaces, .initialized RX6, .code yX6_lookOfFaces cX6_lookOfFaces 6 (some .int), .methodLink RX6 325 yX6_digit, .static yX6_digit, .code yX6_digit cX6_digit 4 (some .int), .methodLink RX6 322 yX6_seenFromBehind, .static yX6_seenFromBehind, .code yX6_seenFromBehind cX6_seenFromBehind 1 (some .int), .methodLink RX0 67 yX0_makeWays, .instanceMethod yX0_makeWays, .selects RX0 yX0_makeWays yX0_makeWays, .initialized RX0, .code yX0_makeWays cX0_makeWays 4 none, .static yX6_turnedOver, .code yX6_turnedOver cX6_turnedOver 5 (some .int), .methodLink RX6 296 yX6_colorsAt, .static yX6_colorsAt, .code yX6_colorsAt cX6_colorsAt 2 (some .int), .constant RX6 321 (983055), .static yX6_turned, .code yX6_turned cX6_turned 3 (some .int)] ++ wsX00)
def wsX1_next : List Cond := .code yX1_next cX1_next 2 (some .int) :: ([.fieldLink RX1 16 "TwoFacedTiles$Draws" "rest" "I", .fieldLink RX1 13 "TwoFacedTiles$Draws" "colors" "I", .fieldLink RX1 7 "TwoFacedTiles$Draws" "seed" "I"] ++ wsX10)
def wsX6_opposite : List Cond := .code yX6_opposite cX6_opposite 1 (some .int) :: ([])
def wsX0_cutSide : List Cond := .code yX0_cutSide cX0_cutSide 8 none :: ([.fieldLink RX0 34 "TwoFacedTiles$Board" "looks" "[I", .methodLink RX0 80 yX0_neighbor, .instanceMethod yX0_neighbor, .selects RX0 yX0_neighbor yX0_neighbor, .initialized RX0, .code yX0_neighbor cX0_neighbor 4 (some .int), .fieldLink RX0 15 "TwoFacedTiles$Board" "columns" "I", .methodLink RX0 43 yX0_cells, .instanceMethod yX0_cells, .selects RX0 yX0_cells yX0_cells, .code yX0_cells cX0_cells 1 (some .int), .fieldLink RX0 9 "TwoFacedTiles$Board" "rows" "I", .methodLink RX0 83 yX1_next, .instanceMethod yX1_next, .selects RX1 yX1_next yX1_next, .initialized RX1, .code yX1_next cX1_next 2 (some .int), .fieldLink RX1 16 "TwoFacedTiles$Draws" "rest" "I", .fieldLink RX1 13 "TwoFacedTiles$Draws" "colors" "I", .fieldLink RX1 7 "TwoFacedTiles$Draws" "seed" "I", .static yX6_opposite, .initialized RX6, .code yX6_opposite cX6_opposite 1 (some .int)] ++ wsX00 ++ wsX10)
def wsX0_cutTiles_r1 : List Cond := [Cond.fieldLink RX0 21 "TwoFacedTiles$Board" "tiles" "I", Cond.fieldLink RX0 34 "TwoFacedTiles$Board" "looks" "[I", Cond.methodLink RX0 43 yX0_cells, Cond.instanceMethod yX0_cells, Cond.selects RX0 yX0_cells yX0_cells, Cond.initialized RX0, Cond.code yX0_cells cX0_cells 1 (some .int), Cond.fieldLink RX0 9 "TwoFacedTiles$Board" "rows" "I", Cond.fieldLink RX0 15 "TwoFacedTiles$Board" "columns" "I", Cond.methodLink RX0 76 yX0_cutSide, Cond.instanceMethod yX0_cutSide, Cond.selects RX0 yX0_cutSide yX0_cutSide, Cond.code yX0_cutSide cX0_cutSide 8 none, Cond.methodLink RX0 80 yX0_neighbor, Cond.instanceMethod yX0_neighbor, Cond.selects RX0 yX0_neighbor yX0_neighbor, Cond.code yX0_neighbor cX0_neighbor 4 (some .int), Cond.methodLink RX0 83 yX1_next, Cond.instanceMethod yX1_next, Cond.selects RX1 yX1_next yX1_next, Cond.initialized RX1, Cond.code yX1_next cX1_next 2 (some .int), Cond.fieldLink RX1 16 "TwoFacedTiles$Draws" "rest" "I", Cond.fieldLink RX1 13 "TwoFacedTiles$Draws" "colors" "I"]
def wsX0_cutTiles_r2 : List Cond := [Cond.fieldLink RX1 7 "TwoFacedTiles$Draws" "seed" "I", Cond.static yX6_opposite, Cond.initialized RX6, Cond.code yX6_opposite cX6_opposite 1 (some .int), Cond.methodLink RX0 67 yX0_makeWays, Cond.instanceMethod yX0_makeWays, Cond.selects RX0 yX0_makeWays yX0_makeWays, Cond.code yX0_makeWays cX0_makeWays 4 none, Cond.static yX6_turnedOver, Cond.code yX6_turnedOver cX6_turnedOver 5 (some .int), Cond.methodLink RX6 296 yX6_colorsAt, Cond.static yX6_colorsAt, Cond.code yX6_colorsAt cX6_colorsAt 2 (some .int), Cond.constant RX6 321 (983055), Cond.methodLink RX6 322 yX6_seenFromBehind, Cond.static yX6_seenFromBehind, Cond.code yX6_seenFromBehind cX6_seenFromBehind 1 (some .int), Cond.static yX6_turned, Cond.code yX6_turned cX6_turned 3 (some .int)]
def wsX0_cutTiles : List Cond := .code yX0_cutTiles cX0_cutTiles 3 none :: ((wsX0_cutTiles_r1 ++ wsX0_cutTiles_r2) ++ wsX00 ++ wsX10)
def wsX0_faceOf : List Cond := .code yX0_faceOf cX0_faceOf 6 (some .int) :: ([.fieldLink RX0 34 "TwoFacedTiles$Board" "looks" "[I", .static yX6_colorsAt, .initialized RX6, .code yX6_colorsAt cX6_colorsAt 2 (some .int), .constant RX6 321 (983055)] ++ wsX00)
def wsX0_lowestLike : List Cond := .code yX0_lowestLike cX0_lowestLike 4 (some .int) :: ([.fieldLink RX0 34 "TwoFacedTiles$Board" "looks" "[I"] ++ wsX00)
def wsX0_isAlike_r1 : List Cond := [Cond.methodLink RX0 80 yX0_neighbor, Cond.instanceMethod yX0_neighbor, Cond.selects RX0 yX0_neighbor yX0_neighbor, Cond.initialized RX0, Cond.code yX0_neighbor cX0_neighbor 4 (some .int), Cond.fieldLink RX0 15 "TwoFacedTiles$Board" "columns" "I", Cond.methodLink RX0 43 yX0_cells, Cond.instanceMethod yX0_cells, Cond.selects RX0 yX0_cells yX0_cells, Cond.code yX0_cells cX0_cells 1 (some .int), Cond.fieldLink RX0 9 "TwoFacedTiles$Board" "rows" "I", Cond.methodLink RX0 47 yX0_isEmpty, Cond.instanceMethod yX0_isEmpty, Cond.selects RX0 yX0_isEmpty yX0_isEmpty, Cond.code yX0_isEmpty cX0_isEmpty 2 (some .boolean), Cond.fieldLink RX0 27 "TwoFacedTiles$Board" "placings" "[I", Cond.methodLink RX0 98 yX0_lookIn, Cond.instanceMethod yX0_lookIn, Cond.selects RX0 yX0_lookIn yX0_lookIn, Cond.code yX0_lookIn cX0_lookIn 2 (some .int), Cond.fieldLink RX0 34 "TwoFacedTiles$Board" "looks" "[I", Cond.static yX6_colorsAt, Cond.initialized RX6, Cond.code yX6_colorsAt cX6_colorsAt 2 (some .int)]
def wsX0_isAlike_r2 : List Cond := [Cond.constant RX6 321 (983055), Cond.static yX6_opposite, Cond.code yX6_opposite cX6_opposite 1 (some .int)]
def wsX0_isAlike : List Cond := .code yX0_isAlike cX0_isAlike 7 (some .boolean) :: ((wsX0_isAlike_r1 ++ wsX0_isAlike_r2) ++ wsX00)
def wsX0_pairsAlike_r1 : List Cond := [Cond.methodLink RX0 43 yX0_cells, Cond.instanceMethod yX0_cells, Cond.selects RX0 yX0_cells yX0_cells, Cond.initialized RX0, Cond.code yX0_cells cX0_cells 1 (some .int), Cond.fieldLink RX0 9 "TwoFacedTiles$Board" "rows" "I", Cond.fieldLink RX0 15 "TwoFacedTiles$Board" "columns" "I", Cond.methodLink RX0 94 yX0_isAlike, Cond.instanceMethod yX0_isAlike, Cond.selects RX0 yX0_isAlike yX0_isAlike, Cond.code yX0_isAlike cX0_isAlike 7 (some .boolean), Cond.methodLink RX0 80 yX0_neighbor, Cond.instanceMethod yX0_neighbor, Cond.selects RX0 yX0_neighbor yX0_neighbor, Cond.code yX0_neighbor cX0_neighbor 4 (some .int), Cond.methodLink RX0 47 yX0_isEmpty, Cond.instanceMethod yX0_isEmpty, Cond.selects RX0 yX0_isEmpty yX0_isEmpty, Cond.code yX0_isEmpty cX0_isEmpty 2 (some .boolean), Cond.fieldLink RX0 27 "TwoFacedTiles$Board" "placings" "[I", Cond.methodLink RX0 98 yX0_lookIn, Cond.instanceMethod yX0_lookIn, Cond.selects RX0 yX0_lookIn yX0_lookIn, Cond.code yX0_lookIn cX0_lookIn 2 (some .int)]
def wsX0_pairsAlike_r2 : List Cond := [Cond.fieldLink RX0 34 "TwoFacedTiles$Board" "looks" "[I", Cond.static yX6_colorsAt, Cond.initialized RX6, Cond.code yX6_colorsAt cX6_colorsAt 2 (some .int), Cond.constant RX6 321 (983055), Cond.static yX6_opposite, Cond.code yX6_opposite cX6_opposite 1 (some .int)]
def wsX0_pairsAlike : List Cond := .code yX0_pairsAlike cX0_pairsAlike 4 (some .int) :: ((wsX0_pairsAlike_r1 ++ wsX0_pairsAlike_r2) ++ wsX00)
def wsX1_init : List Cond := .code yX1_init cX1_init 1 none :: ([.methodLink RX1 1 objectInit, .instanceMethod objectInit, .code objectInit ⟨#[0xb1]⟩ 1 none, .fieldLink RX1 7 "TwoFacedTiles$Draws" "seed" "I", .fieldLink RX1 13 "TwoFacedTiles$Draws" "colors" "I", .fieldLink RX1 16 "TwoFacedTiles$Draws" "rest" "I"] ++ wsX10)
def wsX1_start : List Cond := .code yX1_start cX1_start 3 none :: ([.fieldLink RX1 7 "TwoFacedTiles$Draws" "seed" "I", .fieldLink RX1 13 "TwoFacedTiles$Draws" "colors" "I", .fieldLink RX1 16 "TwoFacedTiles$Draws" "rest" "I"] ++ wsX10)
def wsX2_init : List Cond := .code yX2_init cX2_init 2 none :: ([.methodLink RX2 3 objectInit, .instanceMethod objectInit, .code objectInit ⟨#[0xb1]⟩ 1 none, .classLink RX2 9 RX0, .fieldLink RX2 11 "TwoFacedTiles$History" "states" "[LTwoFacedTiles$Board;", .fieldLink RX2 17 "TwoFacedTiles$History" "oldest" "I", .fieldLink RX2 21 "TwoFacedTiles$History" "kept" "I", .instantiable RX0 8, .initialized RX0, .instanceMethod yX0_init, .code yX0_init cX0_init 1 none, .methodLink RX0 3 objectInit, .fieldLink RX0 9 "TwoFacedTiles$Board" "rows" "I", .fieldLink RX0 15 "TwoFacedTiles$Board" "columns" "I", .fieldLink RX0 18 "TwoFacedTiles$Board" "rule" "I", .fieldLink RX0 21 "TwoFacedTiles$Board" "tiles" "I", .fieldLink RX0 24 "TwoFacedTiles$Board" "fixed" "I", .arrayClass .int, .fieldLink RX0 27 "TwoFacedTiles$Board" "placings" "[I", .fieldLink RX0 31 "TwoFacedTiles$Board" "places" "[I", .fieldLink RX0 34 "TwoFacedTiles$Board" "looks" "[I"] ++ wsX20 ++ wsX00)
def wsX2_save : List Cond := .code yX2_save cX2_save 2 none :: ([.fieldLink RX2 21 "TwoFacedTiles$History" "kept" "I", .fieldLink RX2 17 "TwoFacedTiles$History" "oldest" "I", .fieldLink RX2 11 "TwoFacedTiles$History" "states" "[LTwoFacedTiles$Board;", .methodLink RX2 25 yX0_copyFrom, .instanceMethod yX0_copyFrom, .selects RX0 yX0_copyFrom yX0_copyFrom, .initialized RX0, .code yX0_copyFrom cX0_copyFrom 2 none, .fieldLink RX0 9 "TwoFacedTiles$Board" "rows" "I", .fieldLink RX0 15 "TwoFacedTiles$Board" "columns" "I", .fieldLink RX0 18 "TwoFacedTiles$Board" "rule" "I", .fieldLink RX0 21 "TwoFacedTiles$Board" "tiles" "I", .fieldLink RX0 24 "TwoFacedTiles$Board" "fixed" "I", .fieldLink RX0 27 "TwoFacedTiles$Board" "placings" "[I", .methodLink RX0 37 arraycopyName, .native arraycopyName, .static arraycopyName, .initialized "java/lang/System", .fieldLink RX0 31 "TwoFacedTiles$Board" "places" "[I", .fieldLink RX0 34 "TwoFacedTiles$Board" "looks" "[I"] ++ wsX20 ++ wsX00)
def wsX2_restore : List Cond := .code yX2_restore cX2_restore 2 none :: ([.fieldLink RX2 21 "TwoFacedTiles$History" "kept" "I", .fieldLink RX2 11 "TwoFacedTiles$History" "states" "[LTwoFacedTiles$Board;", .fieldLink RX2 17 "TwoFacedTiles$History" "oldest" "I", .methodLink RX2 25 yX0_copyFrom, .instanceMethod yX0_copyFrom, .selects RX0 yX0_copyFrom yX0_copyFrom, .initialized RX0, .code yX0_copyFrom cX0_copyFrom 2 none, .fieldLink RX0 9 "TwoFacedTiles$Board" "rows" "I", .fieldLink RX0 15 "TwoFacedTiles$Board" "columns" "I", .fieldLink RX0 18 "TwoFacedTiles$Board" "rule" "I", .fieldLink RX0 21 "TwoFacedTiles$Board" "tiles" "I", .fieldLink RX0 24 "TwoFacedTiles$Board" "fixed" "I", .fieldLink RX0 27 "TwoFacedTiles$Board" "placings" "[I", .methodLink RX0 37 arraycopyName, .native arraycopyName, .static arraycopyName, .initialized "java/lang/System", .fieldLink RX0 31 "TwoFacedTiles$Board" "places" "[I", .fieldLink RX0 34 "TwoFacedTiles$Board" "looks" "[I"] ++ wsX20 ++ wsX00)
def wsX3_init : List Cond := .code yX3_init cX3_init 1 none :: ([.methodLink RX3 3 objectInit, .instanceMethod objectInit, .code objectInit ⟨#[0xb1]⟩ 1 none, .fieldLink RX3 9 "TwoFacedTiles$Needs" "mustBeZero" "I", .fieldLink RX3 15 "TwoFacedTiles$Needs" "mustAgree" "I", .fieldLink RX3 18 "TwoFacedTiles$Needs" "wanted" "I", .fieldLink RX3 21 "TwoFacedTiles$Needs" "forbiddenZero" "Z"] ++ wsX30)
def wsX3_ruledColors : List Cond := .code yX3_ruledColors cX3_ruledColors 1 (some .int) :: ([.constant RX3 55 (983055)])
def wsX3_readNeighbor : List Cond := .code yX3_readNeighbor cX3_readNeighbor 4 none :: ([.fieldLink RX3 15 "TwoFacedTiles$Needs" "mustAgree" "I", .constant RX3 55 (983055), .fieldLink RX3 18 "TwoFacedTiles$Needs" "wanted" "I", .fieldLink RX3 21 "TwoFacedTiles$Needs" "forbiddenZero" "Z", .constant RX3 56 (983040)] ++ wsX30)
def wsX3_read_r1 : List Cond := [Cond.fieldLink RX3 9 "TwoFacedTiles$Needs" "mustBeZero" "I", Cond.fieldLink RX3 15 "TwoFacedTiles$Needs" "mustAgree" "I", Cond.fieldLink RX3 18 "TwoFacedTiles$Needs" "wanted" "I", Cond.fieldLink RX3 21 "TwoFacedTiles$Needs" "forbiddenZero" "Z", Cond.fieldLink RX3 25 "TwoFacedTiles$Board" "rule" "I", Cond.methodLink RX3 30 yX3_ruledColors, Cond.static yX3_ruledColors, Cond.initialized RX3, Cond.code yX3_ruledColors cX3_ruledColors 1 (some .int), Cond.constant RX3 55 (983055), Cond.methodLink RX3 34 yX0_neighbor, Cond.instanceMethod yX0_neighbor, Cond.selects RX0 yX0_neighbor yX0_neighbor, Cond.initialized RX0, Cond.code yX0_neighbor cX0_neighbor 4 (some .int), Cond.fieldLink RX0 15 "TwoFacedTiles$Board" "columns" "I", Cond.methodLink RX0 43 yX0_cells, Cond.instanceMethod yX0_cells, Cond.selects RX0 yX0_cells yX0_cells, Cond.code yX0_cells cX0_cells 1 (some .int), Cond.fieldLink RX0 9 "TwoFacedTiles$Board" "rows" "I", Cond.methodLink RX3 38 yX0_isEmpty, Cond.instanceMethod yX0_isEmpty, Cond.selects RX0 yX0_isEmpty yX0_isEmpty]
def wsX3_read_r2 : List Cond := [Cond.code yX0_isEmpty cX0_isEmpty 2 (some .boolean), Cond.fieldLink RX0 27 "TwoFacedTiles$Board" "placings" "[I", Cond.methodLink RX3 42 yX0_lookIn, Cond.instanceMethod yX0_lookIn, Cond.selects RX0 yX0_lookIn yX0_lookIn, Cond.code yX0_lookIn cX0_lookIn 2 (some .int), Cond.fieldLink RX0 34 "TwoFacedTiles$Board" "looks" "[I", Cond.static yX6_opposite, Cond.initialized RX6, Cond.code yX6_opposite cX6_opposite 1 (some .int), Cond.static yX6_colorsAt, Cond.code yX6_colorsAt cX6_colorsAt 2 (some .int), Cond.constant RX6 321 (983055), Cond.methodLink RX3 51 yX3_readNeighbor, Cond.instanceMethod yX3_readNeighbor, Cond.selects RX3 yX3_readNeighbor yX3_readNeighbor, Cond.code yX3_readNeighbor cX3_readNeighbor 4 none, Cond.constant RX3 56 (983040)]
def wsX3_read : List Cond := .code yX3_read cX3_read 6 none :: ((wsX3_read_r1 ++ wsX3_read_r2) ++ wsX30 ++ wsX00)
def wsX3_reasonAgainst : List Cond := .code yX3_reasonAgainst cX3_reasonAgainst 3 (some .int) :: ([.fieldLink RX3 9 "TwoFacedTiles$Needs" "mustBeZero" "I", .fieldLink RX3 18 "TwoFacedTiles$Needs" "wanted" "I", .fieldLink RX3 15 "TwoFacedTiles$Needs" "mustAgree" "I", .constant RX3 57 (65535), .fieldLink RX3 21 "TwoFacedTiles$Needs" "forbiddenZero" "Z"] ++ wsX30)
def wsX4_init_r1 : List Cond := [Cond.methodLink RX4 3 objectInit, Cond.instanceMethod objectInit, Cond.code objectInit ⟨#[0xb1]⟩ 1 none, Cond.classLink RX4 9 RX0, Cond.instantiable RX0 8, Cond.initialized RX0, Cond.fieldLink RX4 12 "TwoFacedTiles$Search" "trial" "LTwoFacedTiles$Board;", Cond.fieldLink RX4 18 "TwoFacedTiles$Search" "found" "I", Cond.classLink RX4 22 RX3, Cond.fieldLink RX4 24 "TwoFacedTiles$Search" "needs" "[LTwoFacedTiles$Needs;", Cond.fieldLink RX4 28 "TwoFacedTiles$Search" "most" "I", Cond.fieldLink RX4 31 "TwoFacedTiles$Search" "steps" "I", Cond.fieldLink RX4 34 "TwoFacedTiles$Search" "tooManySteps" "Z", Cond.fieldLink RX4 38 "TwoFacedTiles$Search" "over" "Z", Cond.instantiable RX3 4, Cond.initialized RX3, Cond.instanceMethod yX0_init, Cond.code yX0_init cX0_init 1 none, Cond.methodLink RX0 3 objectInit, Cond.fieldLink RX0 9 "TwoFacedTiles$Board" "rows" "I", Cond.fieldLink RX0 15 "TwoFacedTiles$Board" "columns" "I", Cond.fieldLink RX0 18 "TwoFacedTiles$Board" "rule" "I", Cond.fieldLink RX0 21 "TwoFacedTiles$Board" "tiles" "I", Cond.fieldLink RX0 24 "TwoFacedTiles$Board" "fixed" "I"]
def wsX4_init_r2 : List Cond := [Cond.arrayClass .int, Cond.fieldLink RX0 27 "TwoFacedTiles$Board" "placings" "[I", Cond.fieldLink RX0 31 "TwoFacedTiles$Board" "places" "[I", Cond.fieldLink RX0 34 "TwoFacedTiles$Board" "looks" "[I", Cond.instanceMethod yX3_init, Cond.code yX3_init cX3_init 1 none, Cond.methodLink RX3 3 objectInit, Cond.fieldLink RX3 9 "TwoFacedTiles$Needs" "mustBeZero" "I", Cond.fieldLink RX3 15 "TwoFacedTiles$Needs" "mustAgree" "I", Cond.fieldLink RX3 18 "TwoFacedTiles$Needs" "wanted" "I", Cond.fieldLink RX3 21 "TwoFacedTiles$Needs" "forbiddenZero" "Z"]
def wsX4_init : List Cond := .code yX4_init cX4_init 2 none :: ((wsX4_init_r1 ++ wsX4_init_r2) ++ wsX00 ++ wsX40 ++ wsX30)
def wsX4_fillFrom_r1 : List Cond := [Cond.fieldLink RX4 12 "TwoFacedTiles$Search" "trial" "LTwoFacedTiles$Board;", Cond.fieldLink RX4 18 "TwoFacedTiles$Search" "found" "I", Cond.fieldLink RX4 28 "TwoFacedTiles$Search" "most" "I", Cond.fieldLink RX4 38 "TwoFacedTiles$Search" "over" "Z", Cond.fieldLink RX4 24 "TwoFacedTiles$Search" "needs" "[LTwoFacedTiles$Needs;", Cond.fieldLink RX4 69 "TwoFacedTiles$Board" "tiles" "I", Cond.fieldLink RX4 75 "TwoFacedTiles$Board" "looks" "[I", Cond.methodLink RX4 57 yX0_cells, Cond.instanceMethod yX0_cells, Cond.selects RX0 yX0_cells yX0_cells, Cond.initialized RX0, Cond.code yX0_cells cX0_cells 1 (some .int), Cond.fieldLink RX0 9 "TwoFacedTiles$Board" "rows" "I", Cond.fieldLink RX0 15 "TwoFacedTiles$Board" "columns" "I", Cond.methodLink RX4 61 yX0_isEmpty, Cond.instanceMethod yX0_isEmpty, Cond.selects RX0 yX0_isEmpty yX0_isEmpty, Cond.code yX0_isEmpty cX0_isEmpty 2 (some .boolean), Cond.fieldLink RX0 27 "TwoFacedTiles$Board" "placings" "[I", Cond.methodLink RX4 65 yX3_read, Cond.instanceMethod yX3_read, Cond.selects RX3 yX3_read yX3_read, Cond.initialized RX3, Cond.code yX3_read cX3_read 6 none]
def wsX4_fillFrom_r2 : List Cond := [Cond.fieldLink RX3 9 "TwoFacedTiles$Needs" "mustBeZero" "I", Cond.fieldLink RX3 15 "TwoFacedTiles$Needs" "mustAgree" "I", Cond.fieldLink RX3 18 "TwoFacedTiles$Needs" "wanted" "I", Cond.fieldLink RX3 21 "TwoFacedTiles$Needs" "forbiddenZero" "Z", Cond.fieldLink RX3 25 "TwoFacedTiles$Board" "rule" "I", Cond.methodLink RX3 30 yX3_ruledColors, Cond.static yX3_ruledColors, Cond.code yX3_ruledColors cX3_ruledColors 1 (some .int), Cond.constant RX3 55 (983055), Cond.methodLink RX3 34 yX0_neighbor, Cond.instanceMethod yX0_neighbor, Cond.selects RX0 yX0_neighbor yX0_neighbor, Cond.code yX0_neighbor cX0_neighbor 4 (some .int), Cond.methodLink RX0 43 yX0_cells, Cond.methodLink RX3 38 yX0_isEmpty, Cond.methodLink RX3 42 yX0_lookIn, Cond.instanceMethod yX0_lookIn, Cond.selects RX0 yX0_lookIn yX0_lookIn, Cond.code yX0_lookIn cX0_lookIn 2 (some .int), Cond.fieldLink RX0 34 "TwoFacedTiles$Board" "looks" "[I", Cond.static yX6_opposite, Cond.initialized RX6, Cond.code yX6_opposite cX6_opposite 1 (some .int), Cond.static yX6_colorsAt]
def wsX4_fillFrom_r3 : List Cond := [Cond.code yX6_colorsAt cX6_colorsAt 2 (some .int), Cond.constant RX6 321 (983055), Cond.methodLink RX3 51 yX3_readNeighbor, Cond.instanceMethod yX3_readNeighbor, Cond.selects RX3 yX3_readNeighbor yX3_readNeighbor, Cond.code yX3_readNeighbor cX3_readNeighbor 4 none, Cond.constant RX3 56 (983040), Cond.methodLink RX4 72 yX0_isLaid, Cond.instanceMethod yX0_isLaid, Cond.selects RX0 yX0_isLaid yX0_isLaid, Cond.code yX0_isLaid cX0_isLaid 2 (some .boolean), Cond.fieldLink RX0 31 "TwoFacedTiles$Board" "places" "[I", Cond.methodLink RX4 79 yX3_reasonAgainst, Cond.instanceMethod yX3_reasonAgainst, Cond.selects RX3 yX3_reasonAgainst yX3_reasonAgainst, Cond.code yX3_reasonAgainst cX3_reasonAgainst 3 (some .int), Cond.constant RX3 57 (65535), Cond.methodLink RX4 82 yX4_tryPlacing, Cond.instanceMethod yX4_tryPlacing, Cond.selects RX4 yX4_tryPlacing yX4_tryPlacing, Cond.initialized RX4, Cond.code yX4_tryPlacing cX4_tryPlacing 3 none, Cond.fieldLink RX4 31 "TwoFacedTiles$Search" "steps" "I", Cond.fieldLink RX4 34 "TwoFacedTiles$Search" "tooManySteps" "Z"]
def wsX4_fillFrom_r4 : List Cond := [Cond.methodLink RX4 86 yX0_put, Cond.instanceMethod yX0_put, Cond.selects RX0 yX0_put yX0_put, Cond.code yX0_put cX0_put 3 none, Cond.methodLink RX4 54 yX4_fillFrom, Cond.instanceMethod yX4_fillFrom, Cond.selects RX4 yX4_fillFrom yX4_fillFrom, Cond.methodLink RX4 89 yX0_remove, Cond.instanceMethod yX0_remove, Cond.selects RX0 yX0_remove yX0_remove, Cond.code yX0_remove cX0_remove 2 none]
def wsX4_fillFrom : List Cond := .code yX4_fillFrom cX4_fillFrom 7 none :: ((wsX4_fillFrom_r1 ++ (wsX4_fillFrom_r2 ++ (wsX4_fillFrom_r3 ++ wsX4_fillFrom_r4))) ++ wsX40 ++ wsX00 ++ wsX30)
def wsX4_tryPlacing_r1 : List Cond := [Cond.fieldLink RX4 31 "TwoFacedTiles$Search" "steps" "I", Cond.fieldLink RX4 34 "TwoFacedTiles$Search" "tooManySteps" "Z", Cond.fieldLink RX4 38 "TwoFacedTiles$Search" "over" "Z", Cond.fieldLink RX4 12 "TwoFacedTiles$Search" "trial" "LTwoFacedTiles$Board;", Cond.methodLink RX4 86 yX0_put, Cond.instanceMethod yX0_put, Cond.selects RX0 yX0_put yX0_put, Cond.initialized RX0, Cond.code yX0_put cX0_put 3 none, Cond.fieldLink RX0 27 "TwoFacedTiles$Board" "placings" "[I", Cond.fieldLink RX0 31 "TwoFacedTiles$Board" "places" "[I", Cond.methodLink RX4 54 yX4_fillFrom, Cond.instanceMethod yX4_fillFrom, Cond.selects RX4 yX4_fillFrom yX4_fillFrom, Cond.initialized RX4, Cond.methodLink RX4 89 yX0_remove, Cond.instanceMethod yX0_remove, Cond.selects RX0 yX0_remove yX0_remove, Cond.code yX0_remove cX0_remove 2 none, Cond.code yX4_fillFrom cX4_fillFrom 7 none, Cond.fieldLink RX4 18 "TwoFacedTiles$Search" "found" "I", Cond.fieldLink RX4 28 "TwoFacedTiles$Search" "most" "I", Cond.fieldLink RX4 24 "TwoFacedTiles$Search" "needs" "[LTwoFacedTiles$Needs;", Cond.fieldLink RX4 69 "TwoFacedTiles$Board" "tiles" "I"]
def wsX4_tryPlacing_r2 : List Cond := [Cond.fieldLink RX4 75 "TwoFacedTiles$Board" "looks" "[I", Cond.methodLink RX4 57 yX0_cells, Cond.instanceMethod yX0_cells, Cond.selects RX0 yX0_cells yX0_cells, Cond.code yX0_cells cX0_cells 1 (some .int), Cond.fieldLink RX0 9 "TwoFacedTiles$Board" "rows" "I", Cond.fieldLink RX0 15 "TwoFacedTiles$Board" "columns" "I", Cond.methodLink RX4 61 yX0_isEmpty, Cond.instanceMethod yX0_isEmpty, Cond.selects RX0 yX0_isEmpty yX0_isEmpty, Cond.code yX0_isEmpty cX0_isEmpty 2 (some .boolean), Cond.methodLink RX4 65 yX3_read, Cond.instanceMethod yX3_read, Cond.selects RX3 yX3_read yX3_read, Cond.initialized RX3, Cond.code yX3_read cX3_read 6 none, Cond.fieldLink RX3 9 "TwoFacedTiles$Needs" "mustBeZero" "I", Cond.fieldLink RX3 15 "TwoFacedTiles$Needs" "mustAgree" "I", Cond.fieldLink RX3 18 "TwoFacedTiles$Needs" "wanted" "I", Cond.fieldLink RX3 21 "TwoFacedTiles$Needs" "forbiddenZero" "Z", Cond.fieldLink RX3 25 "TwoFacedTiles$Board" "rule" "I", Cond.methodLink RX3 30 yX3_ruledColors, Cond.static yX3_ruledColors, Cond.code yX3_ruledColors cX3_ruledColors 1 (some .int)]
def wsX4_tryPlacing_r3 : List Cond := [Cond.constant RX3 55 (983055), Cond.methodLink RX3 34 yX0_neighbor, Cond.instanceMethod yX0_neighbor, Cond.selects RX0 yX0_neighbor yX0_neighbor, Cond.code yX0_neighbor cX0_neighbor 4 (some .int), Cond.methodLink RX0 43 yX0_cells, Cond.methodLink RX3 38 yX0_isEmpty, Cond.methodLink RX3 42 yX0_lookIn, Cond.instanceMethod yX0_lookIn, Cond.selects RX0 yX0_lookIn yX0_lookIn, Cond.code yX0_lookIn cX0_lookIn 2 (some .int), Cond.fieldLink RX0 34 "TwoFacedTiles$Board" "looks" "[I", Cond.static yX6_opposite, Cond.initialized RX6, Cond.code yX6_opposite cX6_opposite 1 (some .int), Cond.static yX6_colorsAt, Cond.code yX6_colorsAt cX6_colorsAt 2 (some .int), Cond.constant RX6 321 (983055), Cond.methodLink RX3 51 yX3_readNeighbor, Cond.instanceMethod yX3_readNeighbor, Cond.selects RX3 yX3_readNeighbor yX3_readNeighbor, Cond.code yX3_readNeighbor cX3_readNeighbor 4 none, Cond.constant RX3 56 (983040), Cond.methodLink RX4 72 yX0_isLaid]
def wsX4_tryPlacing_r4 : List Cond := [Cond.instanceMethod yX0_isLaid, Cond.selects RX0 yX0_isLaid yX0_isLaid, Cond.code yX0_isLaid cX0_isLaid 2 (some .boolean), Cond.methodLink RX4 79 yX3_reasonAgainst, Cond.instanceMethod yX3_reasonAgainst, Cond.selects RX3 yX3_reasonAgainst yX3_reasonAgainst, Cond.code yX3_reasonAgainst cX3_reasonAgainst 3 (some .int), Cond.constant RX3 57 (65535), Cond.methodLink RX4 82 yX4_tryPlacing, Cond.instanceMethod yX4_tryPlacing, Cond.selects RX4 yX4_tryPlacing yX4_tryPlacing]
def wsX4_tryPlacing : List Cond := .code yX4_tryPlacing cX4_tryPlacing 3 none :: ((wsX4_tryPlacing_r1 ++ (wsX4_tryPlacing_r2 ++ (wsX4_tryPlacing_r3 ++ wsX4_tryPlacing_r4))) ++ wsX40 ++ wsX00 ++ wsX30)
def wsX4_runTrial_r1 : List Cond := [Cond.fieldLink RX4 28 "TwoFacedTiles$Search" "most" "I", Cond.fieldLink RX4 18 "TwoFacedTiles$Search" "found" "I", Cond.fieldLink RX4 31 "TwoFacedTiles$Search" "steps" "I", Cond.fieldLink RX4 34 "TwoFacedTiles$Search" "tooManySteps" "Z", Cond.fieldLink RX4 38 "TwoFacedTiles$Search" "over" "Z", Cond.methodLink RX4 54 yX4_fillFrom, Cond.instanceMethod yX4_fillFrom, Cond.selects RX4 yX4_fillFrom yX4_fillFrom, Cond.initialized RX4, Cond.code yX4_fillFrom cX4_fillFrom 7 none, Cond.fieldLink RX4 12 "TwoFacedTiles$Search" "trial" "LTwoFacedTiles$Board;", Cond.fieldLink RX4 24 "TwoFacedTiles$Search" "needs" "[LTwoFacedTiles$Needs;", Cond.fieldLink RX4 69 "TwoFacedTiles$Board" "tiles" "I", Cond.fieldLink RX4 75 "TwoFacedTiles$Board" "looks" "[I", Cond.methodLink RX4 57 yX0_cells, Cond.instanceMethod yX0_cells, Cond.selects RX0 yX0_cells yX0_cells, Cond.initialized RX0, Cond.code yX0_cells cX0_cells 1 (some .int), Cond.fieldLink RX0 9 "TwoFacedTiles$Board" "rows" "I", Cond.fieldLink RX0 15 "TwoFacedTiles$Board" "columns" "I", Cond.methodLink RX4 61 yX0_isEmpty, Cond.instanceMethod yX0_isEmpty, Cond.selects RX0 yX0_isEmpty yX0_isEmpty]
def wsX4_runTrial_r2 : List Cond := [Cond.code yX0_isEmpty cX0_isEmpty 2 (some .boolean), Cond.fieldLink RX0 27 "TwoFacedTiles$Board" "placings" "[I", Cond.methodLink RX4 65 yX3_read, Cond.instanceMethod yX3_read, Cond.selects RX3 yX3_read yX3_read, Cond.initialized RX3, Cond.code yX3_read cX3_read 6 none, Cond.fieldLink RX3 9 "TwoFacedTiles$Needs" "mustBeZero" "I", Cond.fieldLink RX3 15 "TwoFacedTiles$Needs" "mustAgree" "I", Cond.fieldLink RX3 18 "TwoFacedTiles$Needs" "wanted" "I", Cond.fieldLink RX3 21 "TwoFacedTiles$Needs" "forbiddenZero" "Z", Cond.fieldLink RX3 25 "TwoFacedTiles$Board" "rule" "I", Cond.methodLink RX3 30 yX3_ruledColors, Cond.static yX3_ruledColors, Cond.code yX3_ruledColors cX3_ruledColors 1 (some .int), Cond.constant RX3 55 (983055), Cond.methodLink RX3 34 yX0_neighbor, Cond.instanceMethod yX0_neighbor, Cond.selects RX0 yX0_neighbor yX0_neighbor, Cond.code yX0_neighbor cX0_neighbor 4 (some .int), Cond.methodLink RX0 43 yX0_cells, Cond.methodLink RX3 38 yX0_isEmpty, Cond.methodLink RX3 42 yX0_lookIn, Cond.instanceMethod yX0_lookIn]
def wsX4_runTrial_r3 : List Cond := [Cond.selects RX0 yX0_lookIn yX0_lookIn, Cond.code yX0_lookIn cX0_lookIn 2 (some .int), Cond.fieldLink RX0 34 "TwoFacedTiles$Board" "looks" "[I", Cond.static yX6_opposite, Cond.initialized RX6, Cond.code yX6_opposite cX6_opposite 1 (some .int), Cond.static yX6_colorsAt, Cond.code yX6_colorsAt cX6_colorsAt 2 (some .int), Cond.constant RX6 321 (983055), Cond.methodLink RX3 51 yX3_readNeighbor, Cond.instanceMethod yX3_readNeighbor, Cond.selects RX3 yX3_readNeighbor yX3_readNeighbor, Cond.code yX3_readNeighbor cX3_readNeighbor 4 none, Cond.constant RX3 56 (983040), Cond.methodLink RX4 72 yX0_isLaid, Cond.instanceMethod yX0_isLaid, Cond.selects RX0 yX0_isLaid yX0_isLaid, Cond.code yX0_isLaid cX0_isLaid 2 (some .boolean), Cond.fieldLink RX0 31 "TwoFacedTiles$Board" "places" "[I", Cond.methodLink RX4 79 yX3_reasonAgainst, Cond.instanceMethod yX3_reasonAgainst, Cond.selects RX3 yX3_reasonAgainst yX3_reasonAgainst, Cond.code yX3_reasonAgainst cX3_reasonAgainst 3 (some .int), Cond.constant RX3 57 (65535)]
def wsX4_runTrial_r4 : List Cond := [Cond.methodLink RX4 82 yX4_tryPlacing, Cond.instanceMethod yX4_tryPlacing, Cond.selects RX4 yX4_tryPlacing yX4_tryPlacing, Cond.code yX4_tryPlacing cX4_tryPlacing 3 none, Cond.methodLink RX4 86 yX0_put, Cond.instanceMethod yX0_put, Cond.selects RX0 yX0_put yX0_put, Cond.code yX0_put cX0_put 3 none, Cond.methodLink RX4 89 yX0_remove, Cond.instanceMethod yX0_remove, Cond.selects RX0 yX0_remove yX0_remove, Cond.code yX0_remove cX0_remove 2 none]
def wsX4_runTrial : List Cond := .code yX4_runTrial cX4_runTrial 2 none :: ((wsX4_runTrial_r1 ++ (wsX4_runTrial_r2 ++ (wsX4_runTrial_r3 ++ wsX4_runTrial_r4))) ++ wsX40 ++ wsX00 ++ wsX30)
def wsX4_run_r1 : List Cond := [Cond.fieldLink RX4 12 "TwoFacedTiles$Search" "trial" "LTwoFacedTiles$Board;", Cond.methodLink RX4 42 yX0_copyFrom, Cond.instanceMethod yX0_copyFrom, Cond.selects RX0 yX0_copyFrom yX0_copyFrom, Cond.initialized RX0, Cond.code yX0_copyFrom cX0_copyFrom 2 none, Cond.fieldLink RX0 9 "TwoFacedTiles$Board" "rows" "I", Cond.fieldLink RX0 15 "TwoFacedTiles$Board" "columns" "I", Cond.fieldLink RX0 18 "TwoFacedTiles$Board" "rule" "I", Cond.fieldLink RX0 21 "TwoFacedTiles$Board" "tiles" "I", Cond.fieldLink RX0 24 "TwoFacedTiles$Board" "fixed" "I", Cond.fieldLink RX0 27 "TwoFacedTiles$Board" "placings" "[I", Cond.methodLink RX0 37 arraycopyName, Cond.native arraycopyName, Cond.static arraycopyName, Cond.initialized "java/lang/System", Cond.fieldLink RX0 31 "TwoFacedTiles$Board" "places" "[I", Cond.fieldLink RX0 34 "TwoFacedTiles$Board" "looks" "[I", Cond.methodLink RX4 46 yX4_runTrial, Cond.instanceMethod yX4_runTrial, Cond.selects RX4 yX4_runTrial yX4_runTrial, Cond.initialized RX4, Cond.code yX4_runTrial cX4_runTrial 2 none, Cond.fieldLink RX4 28 "TwoFacedTiles$Search" "most" "I"]
def wsX4_run_r2 : List Cond := [Cond.fieldLink RX4 18 "TwoFacedTiles$Search" "found" "I", Cond.fieldLink RX4 31 "TwoFacedTiles$Search" "steps" "I", Cond.fieldLink RX4 34 "TwoFacedTiles$Search" "tooManySteps" "Z", Cond.fieldLink RX4 38 "TwoFacedTiles$Search" "over" "Z", Cond.methodLink RX4 54 yX4_fillFrom, Cond.instanceMethod yX4_fillFrom, Cond.selects RX4 yX4_fillFrom yX4_fillFrom, Cond.code yX4_fillFrom cX4_fillFrom 7 none, Cond.fieldLink RX4 24 "TwoFacedTiles$Search" "needs" "[LTwoFacedTiles$Needs;", Cond.fieldLink RX4 69 "TwoFacedTiles$Board" "tiles" "I", Cond.fieldLink RX4 75 "TwoFacedTiles$Board" "looks" "[I", Cond.methodLink RX4 57 yX0_cells, Cond.instanceMethod yX0_cells, Cond.selects RX0 yX0_cells yX0_cells, Cond.code yX0_cells cX0_cells 1 (some .int), Cond.methodLink RX4 61 yX0_isEmpty, Cond.instanceMethod yX0_isEmpty, Cond.selects RX0 yX0_isEmpty yX0_isEmpty, Cond.code yX0_isEmpty cX0_isEmpty 2 (some .boolean), Cond.methodLink RX4 65 yX3_read, Cond.instanceMethod yX3_read, Cond.selects RX3 yX3_read yX3_read, Cond.initialized RX3, Cond.code yX3_read cX3_read 6 none]
def wsX4_run_r3 : List Cond := [Cond.fieldLink RX3 9 "TwoFacedTiles$Needs" "mustBeZero" "I", Cond.fieldLink RX3 15 "TwoFacedTiles$Needs" "mustAgree" "I", Cond.fieldLink RX3 18 "TwoFacedTiles$Needs" "wanted" "I", Cond.fieldLink RX3 21 "TwoFacedTiles$Needs" "forbiddenZero" "Z", Cond.fieldLink RX3 25 "TwoFacedTiles$Board" "rule" "I", Cond.methodLink RX3 30 yX3_ruledColors, Cond.static yX3_ruledColors, Cond.code yX3_ruledColors cX3_ruledColors 1 (some .int), Cond.constant RX3 55 (983055), Cond.methodLink RX3 34 yX0_neighbor, Cond.instanceMethod yX0_neighbor, Cond.selects RX0 yX0_neighbor yX0_neighbor, Cond.code yX0_neighbor cX0_neighbor 4 (some .int), Cond.methodLink RX0 43 yX0_cells, Cond.methodLink RX3 38 yX0_isEmpty, Cond.methodLink RX3 42 yX0_lookIn, Cond.instanceMethod yX0_lookIn, Cond.selects RX0 yX0_lookIn yX0_lookIn, Cond.code yX0_lookIn cX0_lookIn 2 (some .int), Cond.static yX6_opposite, Cond.initialized RX6, Cond.code yX6_opposite cX6_opposite 1 (some .int), Cond.static yX6_colorsAt, Cond.code yX6_colorsAt cX6_colorsAt 2 (some .int)]
def wsX4_run_r4 : List Cond := [Cond.constant RX6 321 (983055), Cond.methodLink RX3 51 yX3_readNeighbor, Cond.instanceMethod yX3_readNeighbor, Cond.selects RX3 yX3_readNeighbor yX3_readNeighbor, Cond.code yX3_readNeighbor cX3_readNeighbor 4 none, Cond.constant RX3 56 (983040), Cond.methodLink RX4 72 yX0_isLaid, Cond.instanceMethod yX0_isLaid, Cond.selects RX0 yX0_isLaid yX0_isLaid, Cond.code yX0_isLaid cX0_isLaid 2 (some .boolean), Cond.methodLink RX4 79 yX3_reasonAgainst, Cond.instanceMethod yX3_reasonAgainst, Cond.selects RX3 yX3_reasonAgainst yX3_reasonAgainst, Cond.code yX3_reasonAgainst cX3_reasonAgainst 3 (some .int), Cond.constant RX3 57 (65535), Cond.methodLink RX4 82 yX4_tryPlacing, Cond.instanceMethod yX4_tryPlacing, Cond.selects RX4 yX4_tryPlacing yX4_tryPlacing, Cond.code yX4_tryPlacing cX4_tryPlacing 3 none, Cond.methodLink RX4 86 yX0_put, Cond.instanceMethod yX0_put, Cond.selects RX0 yX0_put yX0_put, Cond.code yX0_put cX0_put 3 none, Cond.methodLink RX4 89 yX0_remove]
def wsX4_run_r5 : List Cond := [Cond.instanceMethod yX0_remove, Cond.selects RX0 yX0_remove yX0_remove, Cond.code yX0_remove cX0_remove 2 none]
def wsX4_run : List Cond := .code yX4_run cX4_run 3 none :: ((wsX4_run_r1 ++ (wsX4_run_r2 ++ (wsX4_run_r3 ++ (wsX4_run_r4 ++ wsX4_run_r5)))) ++ wsX40 ++ wsX00 ++ wsX30)
def wsX4_result : List Cond := .code yX4_result cX4_result 2 (some .int) :: ([.fieldLink RX4 18 "TwoFacedTiles$Search" "found" "I", .fieldLink RX4 31 "TwoFacedTiles$Search" "steps" "I", .fieldLink RX4 34 "TwoFacedTiles$Search" "tooManySteps" "Z"] ++ wsX40)
def wsX5_init : List Cond := .code yX5_init cX5_init 1 none :: ([.methodLink RX5 3 objectInit, .instanceMethod objectInit, .code objectInit ⟨#[0xb1]⟩ 1 none, .arrayClass .int, .fieldLink RX5 9 "TwoFacedTiles$Text" "codes" "[I", .fieldLink RX5 15 "TwoFacedTiles$Text" "length" "I"] ++ wsX50)
def wsX6_init_r1 : List Cond := [Cond.methodLink RX6 3 objectInit, Cond.instanceMethod objectInit, Cond.code objectInit ⟨#[0xb1]⟩ 1 none, Cond.classLink RX6 9 RX0, Cond.instantiable RX0 8, Cond.initialized RX0, Cond.fieldLink RX6 12 "TwoFacedTiles" "board" "LTwoFacedTiles$Board;", Cond.classLink RX6 16 RX2, Cond.instantiable RX2 3, Cond.initialized RX2, Cond.fieldLink RX6 19 "TwoFacedTiles" "history" "LTwoFacedTiles$History;", Cond.classLink RX6 23 RX5, Cond.instantiable RX5 2, Cond.initialized RX5, Cond.fieldLink RX6 26 "TwoFacedTiles" "text" "LTwoFacedTiles$Text;", Cond.classLink RX6 30 RX3, Cond.instantiable RX3 4, Cond.initialized RX3, Cond.fieldLink RX6 33 "TwoFacedTiles" "needs" "LTwoFacedTiles$Needs;", Cond.classLink RX6 37 RX4, Cond.instantiable RX4 7, Cond.initialized RX4, Cond.fieldLink RX6 40 "TwoFacedTiles" "search" "LTwoFacedTiles$Search;", Cond.classLink RX6 44 RX1]
def wsX6_init_r2 : List Cond := [Cond.instantiable RX1 3, Cond.initialized RX1, Cond.fieldLink RX6 47 "TwoFacedTiles" "draws" "LTwoFacedTiles$Draws;", Cond.instanceMethod yX0_init, Cond.code yX0_init cX0_init 1 none, Cond.methodLink RX0 3 objectInit, Cond.fieldLink RX0 9 "TwoFacedTiles$Board" "rows" "I", Cond.fieldLink RX0 15 "TwoFacedTiles$Board" "columns" "I", Cond.fieldLink RX0 18 "TwoFacedTiles$Board" "rule" "I", Cond.fieldLink RX0 21 "TwoFacedTiles$Board" "tiles" "I", Cond.fieldLink RX0 24 "TwoFacedTiles$Board" "fixed" "I", Cond.arrayClass .int, Cond.fieldLink RX0 27 "TwoFacedTiles$Board" "placings" "[I", Cond.fieldLink RX0 31 "TwoFacedTiles$Board" "places" "[I", Cond.fieldLink RX0 34 "TwoFacedTiles$Board" "looks" "[I", Cond.methodLink RX6 18 yX2_init, Cond.instanceMethod yX2_init, Cond.code yX2_init cX2_init 2 none, Cond.methodLink RX2 3 objectInit, Cond.classLink RX2 9 RX0, Cond.fieldLink RX2 11 "TwoFacedTiles$History" "states" "[LTwoFacedTiles$Board;", Cond.fieldLink RX2 17 "TwoFacedTiles$History" "oldest" "I", Cond.fieldLink RX2 21 "TwoFacedTiles$History" "kept" "I", Cond.instanceMethod yX5_init]
def wsX6_init_r3 : List Cond := [Cond.code yX5_init cX5_init 1 none, Cond.methodLink RX5 3 objectInit, Cond.fieldLink RX5 9 "TwoFacedTiles$Text" "codes" "[I", Cond.fieldLink RX5 15 "TwoFacedTiles$Text" "length" "I", Cond.instanceMethod yX3_init, Cond.code yX3_init cX3_init 1 none, Cond.methodLink RX3 3 objectInit, Cond.fieldLink RX3 9 "TwoFacedTiles$Needs" "mustBeZero" "I", Cond.fieldLink RX3 15 "TwoFacedTiles$Needs" "mustAgree" "I", Cond.fieldLink RX3 18 "TwoFacedTiles$Needs" "wanted" "I", Cond.fieldLink RX3 21 "TwoFacedTiles$Needs" "forbiddenZero" "Z", Cond.methodLink RX6 39 yX4_init, Cond.instanceMethod yX4_init, Cond.code yX4_init cX4_init 2 none, Cond.methodLink RX4 3 objectInit, Cond.classLink RX4 9 RX0, Cond.fieldLink RX4 12 "TwoFacedTiles$Search" "trial" "LTwoFacedTiles$Board;", Cond.fieldLink RX4 18 "TwoFacedTiles$Search" "found" "I", Cond.classLink RX4 22 RX3, Cond.fieldLink RX4 24 "TwoFacedTiles$Search" "needs" "[LTwoFacedTiles$Needs;", Cond.fieldLink RX4 28 "TwoFacedTiles$Search" "most" "I", Cond.fieldLink RX4 31 "TwoFacedTiles$Search" "steps" "I", Cond.fieldLink RX4 34 "TwoFacedTiles$Search" "tooManySteps" "Z", Cond.fieldLink RX4 38 "TwoFacedTiles$Search" "over" "Z"]
def wsX6_init_r4 : List Cond := [Cond.instanceMethod yX1_init, Cond.code yX1_init cX1_init 1 none, Cond.methodLink RX1 1 objectInit, Cond.fieldLink RX1 7 "TwoFacedTiles$Draws" "seed" "I", Cond.fieldLink RX1 13 "TwoFacedTiles$Draws" "colors" "I", Cond.fieldLink RX1 16 "TwoFacedTiles$Draws" "rest" "I", Cond.methodLink RX6 51 yX0_makeEmpty, Cond.instanceMethod yX0_makeEmpty, Cond.selects RX0 yX0_makeEmpty yX0_makeEmpty, Cond.code yX0_makeEmpty cX0_makeEmpty 4 none]
def wsX6_init : List Cond := .code yX6_init cX6_init 1 none :: ((wsX6_init_r1 ++ (wsX6_init_r2 ++ (wsX6_init_r3 ++ wsX6_init_r4))) ++ wsX00 ++ wsX60 ++ wsX20 ++ wsX50 ++ wsX30 ++ wsX40 ++ wsX10)
def wsX6_begin_r1 : List Cond := [Cond.classLink RX6 55 "java/lang/IllegalArgumentException", Cond.initialized "java/lang/IllegalArgumentException", Cond.fieldLink RX6 19 "TwoFacedTiles" "history" "LTwoFacedTiles$History;", Cond.fieldLink RX6 12 "TwoFacedTiles" "board" "LTwoFacedTiles$Board;", Cond.methodLink RX6 62 yX2_save, Cond.instanceMethod yX2_save, Cond.selects RX2 yX2_save yX2_save, Cond.initialized RX2, Cond.code yX2_save cX2_save 2 none, Cond.fieldLink RX2 21 "TwoFacedTiles$History" "kept" "I", Cond.fieldLink RX2 17 "TwoFacedTiles$History" "oldest" "I", Cond.fieldLink RX2 11 "TwoFacedTiles$History" "states" "[LTwoFacedTiles$Board;", Cond.methodLink RX2 25 yX0_copyFrom, Cond.instanceMethod yX0_copyFrom, Cond.selects RX0 yX0_copyFrom yX0_copyFrom, Cond.initialized RX0, Cond.code yX0_copyFrom cX0_copyFrom 2 none, Cond.fieldLink RX0 9 "TwoFacedTiles$Board" "rows" "I", Cond.fieldLink RX0 15 "TwoFacedTiles$Board" "columns" "I", Cond.fieldLink RX0 18 "TwoFacedTiles$Board" "rule" "I", Cond.fieldLink RX0 21 "TwoFacedTiles$Board" "tiles" "I", Cond.fieldLink RX0 24 "TwoFacedTiles$Board" "fixed" "I", Cond.fieldLink RX0 27 "TwoFacedTiles$Board" "placings" "[I", Cond.methodLink RX0 37 arraycopyName]
def wsX6_begin_r2 : List Cond := [Cond.native arraycopyName, Cond.static arraycopyName, Cond.initialized "java/lang/System", Cond.fieldLink RX0 31 "TwoFacedTiles$Board" "places" "[I", Cond.fieldLink RX0 34 "TwoFacedTiles$Board" "looks" "[I", Cond.methodLink RX6 51 yX0_makeEmpty, Cond.instanceMethod yX0_makeEmpty, Cond.selects RX0 yX0_makeEmpty yX0_makeEmpty, Cond.code yX0_makeEmpty cX0_makeEmpty 4 none, Cond.methodLink RX6 66 yX0_cells, Cond.instanceMethod yX0_cells, Cond.selects RX0 yX0_cells yX0_cells, Cond.code yX0_cells cX0_cells 1 (some .int)]
def wsX6_begin : List Cond := .code yX6_begin cX6_begin 3 (some .int) :: ((wsX6_begin_r1 ++ wsX6_begin_r2) ++ wsX60 ++ wsX20 ++ wsX00 ++ (vx_atS RX6 59 "java/lang/IllegalArgumentException" ["java/lang/RuntimeException", "java/lang/Exception"]).filter goodWord)
def wsX6_addTile_r1 : List Cond := [Cond.classLink RX6 55 "java/lang/IllegalArgumentException", Cond.initialized "java/lang/IllegalArgumentException", Cond.classLink RX6 76 "java/lang/IllegalStateException", Cond.initialized "java/lang/IllegalStateException", Cond.fieldLink RX6 12 "TwoFacedTiles" "board" "LTwoFacedTiles$Board;", Cond.fieldLink RX6 72 "TwoFacedTiles$Board" "tiles" "I", Cond.fieldLink RX6 19 "TwoFacedTiles" "history" "LTwoFacedTiles$History;", Cond.methodLink RX6 62 yX2_save, Cond.instanceMethod yX2_save, Cond.selects RX2 yX2_save yX2_save, Cond.initialized RX2, Cond.code yX2_save cX2_save 2 none, Cond.fieldLink RX2 21 "TwoFacedTiles$History" "kept" "I", Cond.fieldLink RX2 17 "TwoFacedTiles$History" "oldest" "I", Cond.fieldLink RX2 11 "TwoFacedTiles$History" "states" "[LTwoFacedTiles$Board;", Cond.methodLink RX2 25 yX0_copyFrom, Cond.instanceMethod yX0_copyFrom, Cond.selects RX0 yX0_copyFrom yX0_copyFrom, Cond.initialized RX0, Cond.code yX0_copyFrom cX0_copyFrom 2 none, Cond.fieldLink RX0 9 "TwoFacedTiles$Board" "rows" "I", Cond.fieldLink RX0 15 "TwoFacedTiles$Board" "columns" "I", Cond.fieldLink RX0 18 "TwoFacedTiles$Board" "rule" "I", Cond.fieldLink RX0 21 "TwoFacedTiles$Board" "tiles" "I"]
def wsX6_addTile_r2 : List Cond := [Cond.fieldLink RX0 24 "TwoFacedTiles$Board" "fixed" "I", Cond.fieldLink RX0 27 "TwoFacedTiles$Board" "placings" "[I", Cond.methodLink RX0 37 arraycopyName, Cond.native arraycopyName, Cond.static arraycopyName, Cond.initialized "java/lang/System", Cond.fieldLink RX0 31 "TwoFacedTiles$Board" "places" "[I", Cond.fieldLink RX0 34 "TwoFacedTiles$Board" "looks" "[I", Cond.methodLink RX6 81 yX0_addFaces, Cond.instanceMethod yX0_addFaces, Cond.selects RX0 yX0_addFaces yX0_addFaces, Cond.code yX0_addFaces cX0_addFaces 3 none, Cond.static yX6_lookOfFaces, Cond.initialized RX6, Cond.code yX6_lookOfFaces cX6_lookOfFaces 6 (some .int), Cond.methodLink RX6 325 yX6_digit, Cond.static yX6_digit, Cond.code yX6_digit cX6_digit 4 (some .int), Cond.methodLink RX6 322 yX6_seenFromBehind, Cond.static yX6_seenFromBehind, Cond.code yX6_seenFromBehind cX6_seenFromBehind 1 (some .int), Cond.methodLink RX0 67 yX0_makeWays, Cond.instanceMethod yX0_makeWays, Cond.selects RX0 yX0_makeWays yX0_makeWays]
def wsX6_addTile_r3 : List Cond := [Cond.code yX0_makeWays cX0_makeWays 4 none, Cond.static yX6_turnedOver, Cond.code yX6_turnedOver cX6_turnedOver 5 (some .int), Cond.methodLink RX6 296 yX6_colorsAt, Cond.static yX6_colorsAt, Cond.code yX6_colorsAt cX6_colorsAt 2 (some .int), Cond.constant RX6 321 (983055), Cond.static yX6_turned, Cond.code yX6_turned cX6_turned 3 (some .int)]
def wsX6_addTile : List Cond := .code yX6_addTile cX6_addTile 3 (some .int) :: ((wsX6_addTile_r1 ++ (wsX6_addTile_r2 ++ wsX6_addTile_r3)) ++ wsX60 ++ wsX00 ++ wsX20 ++ (vx_atS RX6 59 "java/lang/IllegalArgumentException" ["java/lang/RuntimeException", "java/lang/Exception"]).filter goodWord ++ (vx_atS RX6 80 "java/lang/IllegalStateException" ["java/lang/RuntimeException", "java/lang/Exception"]).filter goodWord)
def wsX6_dropTile_r1 : List Cond := [Cond.classLink RX6 76 "java/lang/IllegalStateException", Cond.initialized "java/lang/IllegalStateException", Cond.fieldLink RX6 12 "TwoFacedTiles" "board" "LTwoFacedTiles$Board;", Cond.fieldLink RX6 72 "TwoFacedTiles$Board" "tiles" "I", Cond.fieldLink RX6 19 "TwoFacedTiles" "history" "LTwoFacedTiles$History;", Cond.methodLink RX6 84 yX0_isLaid, Cond.instanceMethod yX0_isLaid, Cond.selects RX0 yX0_isLaid yX0_isLaid, Cond.initialized RX0, Cond.code yX0_isLaid cX0_isLaid 2 (some .boolean), Cond.fieldLink RX0 31 "TwoFacedTiles$Board" "places" "[I", Cond.methodLink RX6 62 yX2_save, Cond.instanceMethod yX2_save, Cond.selects RX2 yX2_save yX2_save, Cond.initialized RX2, Cond.code yX2_save cX2_save 2 none, Cond.fieldLink RX2 21 "TwoFacedTiles$History" "kept" "I", Cond.fieldLink RX2 17 "TwoFacedTiles$History" "oldest" "I", Cond.fieldLink RX2 11 "TwoFacedTiles$History" "states" "[LTwoFacedTiles$Board;", Cond.methodLink RX2 25 yX0_copyFrom, Cond.instanceMethod yX0_copyFrom, Cond.selects RX0 yX0_copyFrom yX0_copyFrom, Cond.code yX0_copyFrom cX0_copyFrom 2 none, Cond.fieldLink RX0 9 "TwoFacedTiles$Board" "rows" "I"]
def wsX6_dropTile_r2 : List Cond := [Cond.fieldLink RX0 15 "TwoFacedTiles$Board" "columns" "I", Cond.fieldLink RX0 18 "TwoFacedTiles$Board" "rule" "I", Cond.fieldLink RX0 21 "TwoFacedTiles$Board" "tiles" "I", Cond.fieldLink RX0 24 "TwoFacedTiles$Board" "fixed" "I", Cond.fieldLink RX0 27 "TwoFacedTiles$Board" "placings" "[I", Cond.methodLink RX0 37 arraycopyName, Cond.native arraycopyName, Cond.static arraycopyName, Cond.initialized "java/lang/System", Cond.fieldLink RX0 34 "TwoFacedTiles$Board" "looks" "[I"]
def wsX6_dropTile : List Cond := .code yX6_dropTile cX6_dropTile 1 (some .int) :: ((wsX6_dropTile_r1 ++ wsX6_dropTile_r2) ++ wsX60 ++ wsX00 ++ wsX20 ++ (vx_atS RX6 80 "java/lang/IllegalStateException" ["java/lang/RuntimeException", "java/lang/Exception"]).filter goodWord)
def wsX6_setRule_r1 : List Cond := [Cond.classLink RX6 55 "java/lang/IllegalArgumentException", Cond.initialized "java/lang/IllegalArgumentException", Cond.fieldLink RX6 19 "TwoFacedTiles" "history" "LTwoFacedTiles$History;", Cond.fieldLink RX6 12 "TwoFacedTiles" "board" "LTwoFacedTiles$Board;", Cond.fieldLink RX6 92 "TwoFacedTiles$Board" "rule" "I", Cond.methodLink RX6 62 yX2_save, Cond.instanceMethod yX2_save, Cond.selects RX2 yX2_save yX2_save, Cond.initialized RX2, Cond.code yX2_save cX2_save 2 none, Cond.fieldLink RX2 21 "TwoFacedTiles$History" "kept" "I", Cond.fieldLink RX2 17 "TwoFacedTiles$History" "oldest" "I", Cond.fieldLink RX2 11 "TwoFacedTiles$History" "states" "[LTwoFacedTiles$Board;", Cond.methodLink RX2 25 yX0_copyFrom, Cond.instanceMethod yX0_copyFrom, Cond.selects RX0 yX0_copyFrom yX0_copyFrom, Cond.initialized RX0, Cond.code yX0_copyFrom cX0_copyFrom 2 none, Cond.fieldLink RX0 9 "TwoFacedTiles$Board" "rows" "I", Cond.fieldLink RX0 15 "TwoFacedTiles$Board" "columns" "I", Cond.fieldLink RX0 18 "TwoFacedTiles$Board" "rule" "I", Cond.fieldLink RX0 21 "TwoFacedTiles$Board" "tiles" "I", Cond.fieldLink RX0 24 "TwoFacedTiles$Board" "fixed" "I", Cond.fieldLink RX0 27 "TwoFacedTiles$Board" "placings" "[I"]
def wsX6_setRule_r2 : List Cond := [Cond.methodLink RX0 37 arraycopyName, Cond.native arraycopyName, Cond.static arraycopyName, Cond.initialized "java/lang/System", Cond.fieldLink RX0 31 "TwoFacedTiles$Board" "places" "[I", Cond.fieldLink RX0 34 "TwoFacedTiles$Board" "looks" "[I"]
def wsX6_setRule : List Cond := .code yX6_setRule cX6_setRule 3 (some .int) :: ((wsX6_setRule_r1 ++ wsX6_setRule_r2) ++ wsX60 ++ wsX00 ++ wsX20 ++ (vx_atS RX6 59 "java/lang/IllegalArgumentException" ["java/lang/RuntimeException", "java/lang/Exception"]).filter goodWord)
def wsX6_cut_r1 : List Cond := [Cond.classLink RX6 55 "java/lang/IllegalArgumentException", Cond.initialized "java/lang/IllegalArgumentException", Cond.constant RX6 95 (999999999), Cond.fieldLink RX6 19 "TwoFacedTiles" "history" "LTwoFacedTiles$History;", Cond.fieldLink RX6 12 "TwoFacedTiles" "board" "LTwoFacedTiles$Board;", Cond.fieldLink RX6 98 "TwoFacedTiles$Board" "rows" "I", Cond.fieldLink RX6 101 "TwoFacedTiles$Board" "columns" "I", Cond.fieldLink RX6 47 "TwoFacedTiles" "draws" "LTwoFacedTiles$Draws;", Cond.fieldLink RX6 72 "TwoFacedTiles$Board" "tiles" "I", Cond.methodLink RX6 62 yX2_save, Cond.instanceMethod yX2_save, Cond.selects RX2 yX2_save yX2_save, Cond.initialized RX2, Cond.code yX2_save cX2_save 2 none, Cond.fieldLink RX2 21 "TwoFacedTiles$History" "kept" "I", Cond.fieldLink RX2 17 "TwoFacedTiles$History" "oldest" "I", Cond.fieldLink RX2 11 "TwoFacedTiles$History" "states" "[LTwoFacedTiles$Board;", Cond.methodLink RX2 25 yX0_copyFrom, Cond.instanceMethod yX0_copyFrom, Cond.selects RX0 yX0_copyFrom yX0_copyFrom, Cond.initialized RX0, Cond.code yX0_copyFrom cX0_copyFrom 2 none, Cond.fieldLink RX0 9 "TwoFacedTiles$Board" "rows" "I", Cond.fieldLink RX0 15 "TwoFacedTiles$Board" "columns" "I"]
def wsX6_cut_r2 : List Cond := [Cond.fieldLink RX0 18 "TwoFacedTiles$Board" "rule" "I", Cond.fieldLink RX0 21 "TwoFacedTiles$Board" "tiles" "I", Cond.fieldLink RX0 24 "TwoFacedTiles$Board" "fixed" "I", Cond.fieldLink RX0 27 "TwoFacedTiles$Board" "placings" "[I", Cond.methodLink RX0 37 arraycopyName, Cond.native arraycopyName, Cond.static arraycopyName, Cond.initialized "java/lang/System", Cond.fieldLink RX0 31 "TwoFacedTiles$Board" "places" "[I", Cond.fieldLink RX0 34 "TwoFacedTiles$Board" "looks" "[I", Cond.methodLink RX6 51 yX0_makeEmpty, Cond.instanceMethod yX0_makeEmpty, Cond.selects RX0 yX0_makeEmpty yX0_makeEmpty, Cond.code yX0_makeEmpty cX0_makeEmpty 4 none, Cond.methodLink RX6 104 yX1_start, Cond.instanceMethod yX1_start, Cond.selects RX1 yX1_start yX1_start, Cond.initialized RX1, Cond.code yX1_start cX1_start 3 none, Cond.fieldLink RX1 7 "TwoFacedTiles$Draws" "seed" "I", Cond.fieldLink RX1 13 "TwoFacedTiles$Draws" "colors" "I", Cond.fieldLink RX1 16 "TwoFacedTiles$Draws" "rest" "I", Cond.methodLink RX6 107 yX0_cutTiles, Cond.instanceMethod yX0_cutTiles]
def wsX6_cut_r3 : List Cond := [Cond.selects RX0 yX0_cutTiles yX0_cutTiles, Cond.code yX0_cutTiles cX0_cutTiles 3 none, Cond.methodLink RX0 43 yX0_cells, Cond.instanceMethod yX0_cells, Cond.selects RX0 yX0_cells yX0_cells, Cond.code yX0_cells cX0_cells 1 (some .int), Cond.methodLink RX0 76 yX0_cutSide, Cond.instanceMethod yX0_cutSide, Cond.selects RX0 yX0_cutSide yX0_cutSide, Cond.code yX0_cutSide cX0_cutSide 8 none, Cond.methodLink RX0 80 yX0_neighbor, Cond.instanceMethod yX0_neighbor, Cond.selects RX0 yX0_neighbor yX0_neighbor, Cond.code yX0_neighbor cX0_neighbor 4 (some .int), Cond.methodLink RX0 83 yX1_next, Cond.instanceMethod yX1_next, Cond.selects RX1 yX1_next yX1_next, Cond.code yX1_next cX1_next 2 (some .int), Cond.static yX6_opposite, Cond.initialized RX6, Cond.code yX6_opposite cX6_opposite 1 (some .int), Cond.methodLink RX0 67 yX0_makeWays, Cond.instanceMethod yX0_makeWays, Cond.selects RX0 yX0_makeWays yX0_makeWays]
def wsX6_cut_r4 : List Cond := [Cond.code yX0_makeWays cX0_makeWays 4 none, Cond.static yX6_turnedOver, Cond.code yX6_turnedOver cX6_turnedOver 5 (some .int), Cond.methodLink RX6 296 yX6_colorsAt, Cond.static yX6_colorsAt, Cond.code yX6_colorsAt cX6_colorsAt 2 (some .int), Cond.constant RX6 321 (983055), Cond.methodLink RX6 322 yX6_seenFromBehind, Cond.static yX6_seenFromBehind, Cond.code yX6_seenFromBehind cX6_seenFromBehind 1 (some .int), Cond.static yX6_turned, Cond.code yX6_turned cX6_turned 3 (some .int)]
def wsX6_cut : List Cond := .code yX6_cut cX6_cut 3 (some .int) :: ((wsX6_cut_r1 ++ (wsX6_cut_r2 ++ (wsX6_cut_r3 ++ wsX6_cut_r4))) ++ wsX60 ++ wsX00 ++ wsX20 ++ wsX10 ++ (vx_atS RX6 59 "java/lang/IllegalArgumentException" ["java/lang/RuntimeException", "java/lang/Exception"]).filter goodWord)
def wsX6_requireCell : List Cond := .code yX6_requireCell cX6_requireCell 2 none :: ([.classLink RX6 212 "java/lang/IndexOutOfBoundsException", .initialized "java/lang/IndexOutOfBoundsException", .fieldLink RX6 12 "TwoFacedTiles" "board" "LTwoFacedTiles$Board;", .methodLink RX6 267 yX0_hasCell, .instanceMethod yX0_hasCell, .selects RX0 yX0_hasCell yX0_hasCell, .initialized RX0, .code yX0_hasCell cX0_hasCell 2 (some .boolean), .methodLink RX0 43 yX0_cells, .instanceMethod yX0_cells, .selects RX0 yX0_cells yX0_cells, .code yX0_cells cX0_cells 1 (some .int), .fieldLink RX0 9 "TwoFacedTiles$Board" "rows" "I", .fieldLink RX0 15 "TwoFacedTiles$Board" "columns" "I"] ++ wsX60 ++ wsX00 ++ (vx_atS RX6 216 "java/lang/IndexOutOfBoundsException" ["java/lang/RuntimeException", "java/lang/Exception"]).filter goodWord)
def wsX6_requirePlacing : List Cond := .code yX6_requirePlacing cX6_requirePlacing 3 none :: ([.classLink RX6 212 "java/lang/IndexOutOfBoundsException", .initialized "java/lang/IndexOutOfBoundsException", .fieldLink RX6 12 "TwoFacedTiles" "board" "LTwoFacedTiles$Board;", .methodLink RX6 126 yX6_requireCell, .instanceMethod yX6_requireCell, .selects RX6 yX6_requireCell yX6_requireCell, .initialized RX6, .code yX6_requireCell cX6_requireCell 2 none, .methodLink RX6 267 yX0_hasCell, .instanceMethod yX0_hasCell, .selects RX0 yX0_hasCell yX0_hasCell, .initialized RX0, .code yX0_hasCell cX0_hasCell 2 (some .boolean), .methodLink RX0 43 yX0_cells, .instanceMethod yX0_cells, .selects RX0 yX0_cells yX0_cells, .code yX0_cells cX0_cells 1 (some .int), .fieldLink RX0 9 "TwoFacedTiles$Board" "rows" "I", .fieldLink RX0 15 "TwoFacedTiles$Board" "columns" "I", .methodLink RX6 272 yX0_hasPlacing, .instanceMethod yX0_hasPlacing, .selects RX0 yX0_hasPlacing yX0_hasPlacing, .code yX0_hasPlacing cX0_hasPlacing 2 (some .boolean), .fieldLink RX0 21 "TwoFacedTiles$Board" "tiles" "I"] ++ wsX60 ++ wsX00 ++ (vx_atS RX6 216 "java/lang/IndexOutOfBoundsException" ["java/lang/RuntimeException", "java/lang/Exception"]).filter goodWord)
def wsX6_reason_r1 : List Cond := [Cond.fieldLink RX6 12 "TwoFacedTiles" "board" "LTwoFacedTiles$Board;", Cond.fieldLink RX6 33 "TwoFacedTiles" "needs" "LTwoFacedTiles$Needs;", Cond.fieldLink RX6 278 "TwoFacedTiles$Board" "looks" "[I", Cond.methodLink RX6 130 yX0_isEmpty, Cond.instanceMethod yX0_isEmpty, Cond.selects RX0 yX0_isEmpty yX0_isEmpty, Cond.initialized RX0, Cond.code yX0_isEmpty cX0_isEmpty 2 (some .boolean), Cond.fieldLink RX0 27 "TwoFacedTiles$Board" "placings" "[I", Cond.methodLink RX6 84 yX0_isLaid, Cond.instanceMethod yX0_isLaid, Cond.selects RX0 yX0_isLaid yX0_isLaid, Cond.code yX0_isLaid cX0_isLaid 2 (some .boolean), Cond.fieldLink RX0 31 "TwoFacedTiles$Board" "places" "[I", Cond.methodLink RX6 275 yX3_read, Cond.instanceMethod yX3_read, Cond.selects RX3 yX3_read yX3_read, Cond.initialized RX3, Cond.code yX3_read cX3_read 6 none, Cond.fieldLink RX3 9 "TwoFacedTiles$Needs" "mustBeZero" "I", Cond.fieldLink RX3 15 "TwoFacedTiles$Needs" "mustAgree" "I", Cond.fieldLink RX3 18 "TwoFacedTiles$Needs" "wanted" "I", Cond.fieldLink RX3 21 "TwoFacedTiles$Needs" "forbiddenZero" "Z", Cond.fieldLink RX3 25 "TwoFacedTiles$Board" "rule" "I"]
def wsX6_reason_r2 : List Cond := [Cond.methodLink RX3 30 yX3_ruledColors, Cond.static yX3_ruledColors, Cond.code yX3_ruledColors cX3_ruledColors 1 (some .int), Cond.constant RX3 55 (983055), Cond.methodLink RX3 34 yX0_neighbor, Cond.instanceMethod yX0_neighbor, Cond.selects RX0 yX0_neighbor yX0_neighbor, Cond.code yX0_neighbor cX0_neighbor 4 (some .int), Cond.fieldLink RX0 15 "TwoFacedTiles$Board" "columns" "I", Cond.methodLink RX0 43 yX0_cells, Cond.instanceMethod yX0_cells, Cond.selects RX0 yX0_cells yX0_cells, Cond.code yX0_cells cX0_cells 1 (some .int), Cond.fieldLink RX0 9 "TwoFacedTiles$Board" "rows" "I", Cond.methodLink RX3 38 yX0_isEmpty, Cond.methodLink RX3 42 yX0_lookIn, Cond.instanceMethod yX0_lookIn, Cond.selects RX0 yX0_lookIn yX0_lookIn, Cond.code yX0_lookIn cX0_lookIn 2 (some .int), Cond.fieldLink RX0 34 "TwoFacedTiles$Board" "looks" "[I", Cond.static yX6_opposite, Cond.initialized RX6, Cond.code yX6_opposite cX6_opposite 1 (some .int), Cond.static yX6_colorsAt]
def wsX6_reason_r3 : List Cond := [Cond.code yX6_colorsAt cX6_colorsAt 2 (some .int), Cond.constant RX6 321 (983055), Cond.methodLink RX3 51 yX3_readNeighbor, Cond.instanceMethod yX3_readNeighbor, Cond.selects RX3 yX3_readNeighbor yX3_readNeighbor, Cond.code yX3_readNeighbor cX3_readNeighbor 4 none, Cond.constant RX3 56 (983040), Cond.methodLink RX6 281 yX3_reasonAgainst, Cond.instanceMethod yX3_reasonAgainst, Cond.selects RX3 yX3_reasonAgainst yX3_reasonAgainst, Cond.code yX3_reasonAgainst cX3_reasonAgainst 3 (some .int), Cond.constant RX3 57 (65535)]
def wsX6_reason : List Cond := .code yX6_reason cX6_reason 3 (some .int) :: ((wsX6_reason_r1 ++ (wsX6_reason_r2 ++ wsX6_reason_r3)) ++ wsX60 ++ wsX00 ++ wsX30)
def wsX6_lay_r1 : List Cond := [Cond.classLink RX6 76 "java/lang/IllegalStateException", Cond.initialized "java/lang/IllegalStateException", Cond.fieldLink RX6 19 "TwoFacedTiles" "history" "LTwoFacedTiles$History;", Cond.fieldLink RX6 12 "TwoFacedTiles" "board" "LTwoFacedTiles$Board;", Cond.methodLink RX6 111 yX6_requirePlacing, Cond.instanceMethod yX6_requirePlacing, Cond.selects RX6 yX6_requirePlacing yX6_requirePlacing, Cond.initialized RX6, Cond.code yX6_requirePlacing cX6_requirePlacing 3 none, Cond.classLink RX6 212 "java/lang/IndexOutOfBoundsException", Cond.initialized "java/lang/IndexOutOfBoundsException", Cond.methodLink RX6 126 yX6_requireCell, Cond.instanceMethod yX6_requireCell, Cond.selects RX6 yX6_requireCell yX6_requireCell, Cond.code yX6_requireCell cX6_requireCell 2 none, Cond.methodLink RX6 267 yX0_hasCell, Cond.instanceMethod yX0_hasCell, Cond.selects RX0 yX0_hasCell yX0_hasCell, Cond.initialized RX0, Cond.code yX0_hasCell cX0_hasCell 2 (some .boolean), Cond.methodLink RX0 43 yX0_cells, Cond.instanceMethod yX0_cells, Cond.selects RX0 yX0_cells yX0_cells, Cond.code yX0_cells cX0_cells 1 (some .int)]
def wsX6_lay_r2 : List Cond := [Cond.fieldLink RX0 9 "TwoFacedTiles$Board" "rows" "I", Cond.fieldLink RX0 15 "TwoFacedTiles$Board" "columns" "I", Cond.methodLink RX6 272 yX0_hasPlacing, Cond.instanceMethod yX0_hasPlacing, Cond.selects RX0 yX0_hasPlacing yX0_hasPlacing, Cond.code yX0_hasPlacing cX0_hasPlacing 2 (some .boolean), Cond.fieldLink RX0 21 "TwoFacedTiles$Board" "tiles" "I", Cond.methodLink RX6 114 yX6_reason, Cond.instanceMethod yX6_reason, Cond.selects RX6 yX6_reason yX6_reason, Cond.code yX6_reason cX6_reason 3 (some .int), Cond.fieldLink RX6 33 "TwoFacedTiles" "needs" "LTwoFacedTiles$Needs;", Cond.fieldLink RX6 278 "TwoFacedTiles$Board" "looks" "[I", Cond.methodLink RX6 130 yX0_isEmpty, Cond.instanceMethod yX0_isEmpty, Cond.selects RX0 yX0_isEmpty yX0_isEmpty, Cond.code yX0_isEmpty cX0_isEmpty 2 (some .boolean), Cond.fieldLink RX0 27 "TwoFacedTiles$Board" "placings" "[I", Cond.methodLink RX6 84 yX0_isLaid, Cond.instanceMethod yX0_isLaid, Cond.selects RX0 yX0_isLaid yX0_isLaid, Cond.code yX0_isLaid cX0_isLaid 2 (some .boolean), Cond.fieldLink RX0 31 "TwoFacedTiles$Board" "places" "[I", Cond.methodLink RX6 275 yX3_read]
def wsX6_lay_r3 : List Cond := [Cond.instanceMethod yX3_read, Cond.selects RX3 yX3_read yX3_read, Cond.initialized RX3, Cond.code yX3_read cX3_read 6 none, Cond.fieldLink RX3 9 "TwoFacedTiles$Needs" "mustBeZero" "I", Cond.fieldLink RX3 15 "TwoFacedTiles$Needs" "mustAgree" "I", Cond.fieldLink RX3 18 "TwoFacedTiles$Needs" "wanted" "I", Cond.fieldLink RX3 21 "TwoFacedTiles$Needs" "forbiddenZero" "Z", Cond.fieldLink RX3 25 "TwoFacedTiles$Board" "rule" "I", Cond.methodLink RX3 30 yX3_ruledColors, Cond.static yX3_ruledColors, Cond.code yX3_ruledColors cX3_ruledColors 1 (some .int), Cond.constant RX3 55 (983055), Cond.methodLink RX3 34 yX0_neighbor, Cond.instanceMethod yX0_neighbor, Cond.selects RX0 yX0_neighbor yX0_neighbor, Cond.code yX0_neighbor cX0_neighbor 4 (some .int), Cond.methodLink RX3 38 yX0_isEmpty, Cond.methodLink RX3 42 yX0_lookIn, Cond.instanceMethod yX0_lookIn, Cond.selects RX0 yX0_lookIn yX0_lookIn, Cond.code yX0_lookIn cX0_lookIn 2 (some .int), Cond.fieldLink RX0 34 "TwoFacedTiles$Board" "looks" "[I", Cond.static yX6_opposite]
def wsX6_lay_r4 : List Cond := [Cond.code yX6_opposite cX6_opposite 1 (some .int), Cond.static yX6_colorsAt, Cond.code yX6_colorsAt cX6_colorsAt 2 (some .int), Cond.constant RX6 321 (983055), Cond.methodLink RX3 51 yX3_readNeighbor, Cond.instanceMethod yX3_readNeighbor, Cond.selects RX3 yX3_readNeighbor yX3_readNeighbor, Cond.code yX3_readNeighbor cX3_readNeighbor 4 none, Cond.constant RX3 56 (983040), Cond.methodLink RX6 281 yX3_reasonAgainst, Cond.instanceMethod yX3_reasonAgainst, Cond.selects RX3 yX3_reasonAgainst yX3_reasonAgainst, Cond.code yX3_reasonAgainst cX3_reasonAgainst 3 (some .int), Cond.constant RX3 57 (65535), Cond.methodLink RX6 62 yX2_save, Cond.instanceMethod yX2_save, Cond.selects RX2 yX2_save yX2_save, Cond.initialized RX2, Cond.code yX2_save cX2_save 2 none, Cond.fieldLink RX2 21 "TwoFacedTiles$History" "kept" "I", Cond.fieldLink RX2 17 "TwoFacedTiles$History" "oldest" "I", Cond.fieldLink RX2 11 "TwoFacedTiles$History" "states" "[LTwoFacedTiles$Board;", Cond.methodLink RX2 25 yX0_copyFrom, Cond.instanceMethod yX0_copyFrom]
def wsX6_lay_r5 : List Cond := [Cond.selects RX0 yX0_copyFrom yX0_copyFrom, Cond.code yX0_copyFrom cX0_copyFrom 2 none, Cond.fieldLink RX0 18 "TwoFacedTiles$Board" "rule" "I", Cond.fieldLink RX0 24 "TwoFacedTiles$Board" "fixed" "I", Cond.methodLink RX0 37 arraycopyName, Cond.native arraycopyName, Cond.static arraycopyName, Cond.initialized "java/lang/System", Cond.methodLink RX6 120 yX0_put, Cond.instanceMethod yX0_put, Cond.selects RX0 yX0_put yX0_put, Cond.code yX0_put cX0_put 3 none, Cond.methodLink RX6 123 yX0_emptyCells, Cond.instanceMethod yX0_emptyCells, Cond.selects RX0 yX0_emptyCells yX0_emptyCells, Cond.code yX0_emptyCells cX0_emptyCells 3 (some .int), Cond.methodLink RX0 47 yX0_isEmpty]
def wsX6_lay : List Cond := .code yX6_lay cX6_lay 3 (some .int) :: ((wsX6_lay_r1 ++ (wsX6_lay_r2 ++ (wsX6_lay_r3 ++ (wsX6_lay_r4 ++ wsX6_lay_r5)))) ++ wsX60 ++ wsX00 ++ wsX30 ++ wsX20 ++ (vx_atS RX6 80 "java/lang/IllegalStateException" ["java/lang/RuntimeException", "java/lang/Exception"]).filter goodWord ++ (vx_atS RX6 216 "java/lang/IndexOutOfBoundsException" ["java/lang/RuntimeException", "java/lang/Exception"]).filter goodWord)
def wsX6_take_r1 : List Cond := [Cond.classLink RX6 76 "java/lang/IllegalStateException", Cond.initialized "java/lang/IllegalStateException", Cond.fieldLink RX6 12 "TwoFacedTiles" "board" "LTwoFacedTiles$Board;", Cond.fieldLink RX6 19 "TwoFacedTiles" "history" "LTwoFacedTiles$History;", Cond.fieldLink RX6 138 "TwoFacedTiles$Board" "placings" "[I", Cond.methodLink RX6 126 yX6_requireCell, Cond.instanceMethod yX6_requireCell, Cond.selects RX6 yX6_requireCell yX6_requireCell, Cond.initialized RX6, Cond.code yX6_requireCell cX6_requireCell 2 none, Cond.classLink RX6 212 "java/lang/IndexOutOfBoundsException", Cond.initialized "java/lang/IndexOutOfBoundsException", Cond.methodLink RX6 267 yX0_hasCell, Cond.instanceMethod yX0_hasCell, Cond.selects RX0 yX0_hasCell yX0_hasCell, Cond.initialized RX0, Cond.code yX0_hasCell cX0_hasCell 2 (some .boolean), Cond.methodLink RX0 43 yX0_cells, Cond.instanceMethod yX0_cells, Cond.selects RX0 yX0_cells yX0_cells, Cond.code yX0_cells cX0_cells 1 (some .int), Cond.fieldLink RX0 9 "TwoFacedTiles$Board" "rows" "I", Cond.fieldLink RX0 15 "TwoFacedTiles$Board" "columns" "I", Cond.methodLink RX6 130 yX0_isEmpty]
def wsX6_take_r2 : List Cond := [Cond.instanceMethod yX0_isEmpty, Cond.selects RX0 yX0_isEmpty yX0_isEmpty, Cond.code yX0_isEmpty cX0_isEmpty 2 (some .boolean), Cond.fieldLink RX0 27 "TwoFacedTiles$Board" "placings" "[I", Cond.methodLink RX6 133 yX0_isFixed, Cond.instanceMethod yX0_isFixed, Cond.selects RX0 yX0_isFixed yX0_isFixed, Cond.code yX0_isFixed cX0_isFixed 2 (some .boolean), Cond.fieldLink RX0 24 "TwoFacedTiles$Board" "fixed" "I", Cond.methodLink RX6 62 yX2_save, Cond.instanceMethod yX2_save, Cond.selects RX2 yX2_save yX2_save, Cond.initialized RX2, Cond.code yX2_save cX2_save 2 none, Cond.fieldLink RX2 21 "TwoFacedTiles$History" "kept" "I", Cond.fieldLink RX2 17 "TwoFacedTiles$History" "oldest" "I", Cond.fieldLink RX2 11 "TwoFacedTiles$History" "states" "[LTwoFacedTiles$Board;", Cond.methodLink RX2 25 yX0_copyFrom, Cond.instanceMethod yX0_copyFrom, Cond.selects RX0 yX0_copyFrom yX0_copyFrom, Cond.code yX0_copyFrom cX0_copyFrom 2 none, Cond.fieldLink RX0 18 "TwoFacedTiles$Board" "rule" "I", Cond.fieldLink RX0 21 "TwoFacedTiles$Board" "tiles" "I", Cond.methodLink RX0 37 arraycopyName]
def wsX6_take_r3 : List Cond := [Cond.native arraycopyName, Cond.static arraycopyName, Cond.initialized "java/lang/System", Cond.fieldLink RX0 31 "TwoFacedTiles$Board" "places" "[I", Cond.fieldLink RX0 34 "TwoFacedTiles$Board" "looks" "[I", Cond.methodLink RX6 142 yX0_remove, Cond.instanceMethod yX0_remove, Cond.selects RX0 yX0_remove yX0_remove, Cond.code yX0_remove cX0_remove 2 none]
def wsX6_take : List Cond := .code yX6_take cX6_take 3 (some .int) :: ((wsX6_take_r1 ++ (wsX6_take_r2 ++ wsX6_take_r3)) ++ wsX60 ++ wsX00 ++ wsX20 ++ (vx_atS RX6 80 "java/lang/IllegalStateException" ["java/lang/RuntimeException", "java/lang/Exception"]).filter goodWord ++ (vx_atS RX6 216 "java/lang/IndexOutOfBoundsException" ["java/lang/RuntimeException", "java/lang/Exception"]).filter goodWord)
def wsX6_fix_r1 : List Cond := [Cond.classLink RX6 76 "java/lang/IllegalStateException", Cond.initialized "java/lang/IllegalStateException", Cond.fieldLink RX6 12 "TwoFacedTiles" "board" "LTwoFacedTiles$Board;", Cond.fieldLink RX6 19 "TwoFacedTiles" "history" "LTwoFacedTiles$History;", Cond.fieldLink RX6 147 "TwoFacedTiles$Board" "fixed" "I", Cond.methodLink RX6 126 yX6_requireCell, Cond.instanceMethod yX6_requireCell, Cond.selects RX6 yX6_requireCell yX6_requireCell, Cond.initialized RX6, Cond.code yX6_requireCell cX6_requireCell 2 none, Cond.classLink RX6 212 "java/lang/IndexOutOfBoundsException", Cond.initialized "java/lang/IndexOutOfBoundsException", Cond.methodLink RX6 267 yX0_hasCell, Cond.instanceMethod yX0_hasCell, Cond.selects RX0 yX0_hasCell yX0_hasCell, Cond.initialized RX0, Cond.code yX0_hasCell cX0_hasCell 2 (some .boolean), Cond.methodLink RX0 43 yX0_cells, Cond.instanceMethod yX0_cells, Cond.selects RX0 yX0_cells yX0_cells, Cond.code yX0_cells cX0_cells 1 (some .int), Cond.fieldLink RX0 9 "TwoFacedTiles$Board" "rows" "I", Cond.fieldLink RX0 15 "TwoFacedTiles$Board" "columns" "I", Cond.methodLink RX6 130 yX0_isEmpty]
def wsX6_fix_r2 : List Cond := [Cond.instanceMethod yX0_isEmpty, Cond.selects RX0 yX0_isEmpty yX0_isEmpty, Cond.code yX0_isEmpty cX0_isEmpty 2 (some .boolean), Cond.fieldLink RX0 27 "TwoFacedTiles$Board" "placings" "[I", Cond.methodLink RX6 62 yX2_save, Cond.instanceMethod yX2_save, Cond.selects RX2 yX2_save yX2_save, Cond.initialized RX2, Cond.code yX2_save cX2_save 2 none, Cond.fieldLink RX2 21 "TwoFacedTiles$History" "kept" "I", Cond.fieldLink RX2 17 "TwoFacedTiles$History" "oldest" "I", Cond.fieldLink RX2 11 "TwoFacedTiles$History" "states" "[LTwoFacedTiles$Board;", Cond.methodLink RX2 25 yX0_copyFrom, Cond.instanceMethod yX0_copyFrom, Cond.selects RX0 yX0_copyFrom yX0_copyFrom, Cond.code yX0_copyFrom cX0_copyFrom 2 none, Cond.fieldLink RX0 18 "TwoFacedTiles$Board" "rule" "I", Cond.fieldLink RX0 21 "TwoFacedTiles$Board" "tiles" "I", Cond.fieldLink RX0 24 "TwoFacedTiles$Board" "fixed" "I", Cond.methodLink RX0 37 arraycopyName, Cond.native arraycopyName, Cond.static arraycopyName, Cond.initialized "java/lang/System", Cond.fieldLink RX0 31 "TwoFacedTiles$Board" "places" "[I"]
def wsX6_fix_r3 : List Cond := [Cond.fieldLink RX0 34 "TwoFacedTiles$Board" "looks" "[I", Cond.methodLink RX6 133 yX0_isFixed, Cond.instanceMethod yX0_isFixed, Cond.selects RX0 yX0_isFixed yX0_isFixed, Cond.code yX0_isFixed cX0_isFixed 2 (some .boolean)]
def wsX6_fix : List Cond := .code yX6_fix cX6_fix 2 (some .int) :: ((wsX6_fix_r1 ++ (wsX6_fix_r2 ++ wsX6_fix_r3)) ++ wsX60 ++ wsX00 ++ wsX20 ++ (vx_atS RX6 80 "java/lang/IllegalStateException" ["java/lang/RuntimeException", "java/lang/Exception"]).filter goodWord ++ (vx_atS RX6 216 "java/lang/IndexOutOfBoundsException" ["java/lang/RuntimeException", "java/lang/Exception"]).filter goodWord)
def wsX6_clear_r1 : List Cond := [Cond.fieldLink RX6 19 "TwoFacedTiles" "history" "LTwoFacedTiles$History;", Cond.fieldLink RX6 12 "TwoFacedTiles" "board" "LTwoFacedTiles$Board;", Cond.fieldLink RX6 147 "TwoFacedTiles$Board" "fixed" "I", Cond.methodLink RX6 62 yX2_save, Cond.instanceMethod yX2_save, Cond.selects RX2 yX2_save yX2_save, Cond.initialized RX2, Cond.code yX2_save cX2_save 2 none, Cond.fieldLink RX2 21 "TwoFacedTiles$History" "kept" "I", Cond.fieldLink RX2 17 "TwoFacedTiles$History" "oldest" "I", Cond.fieldLink RX2 11 "TwoFacedTiles$History" "states" "[LTwoFacedTiles$Board;", Cond.methodLink RX2 25 yX0_copyFrom, Cond.instanceMethod yX0_copyFrom, Cond.selects RX0 yX0_copyFrom yX0_copyFrom, Cond.initialized RX0, Cond.code yX0_copyFrom cX0_copyFrom 2 none, Cond.fieldLink RX0 9 "TwoFacedTiles$Board" "rows" "I", Cond.fieldLink RX0 15 "TwoFacedTiles$Board" "columns" "I", Cond.fieldLink RX0 18 "TwoFacedTiles$Board" "rule" "I", Cond.fieldLink RX0 21 "TwoFacedTiles$Board" "tiles" "I", Cond.fieldLink RX0 24 "TwoFacedTiles$Board" "fixed" "I", Cond.fieldLink RX0 27 "TwoFacedTiles$Board" "placings" "[I", Cond.methodLink RX0 37 arraycopyName, Cond.native arraycopyName]
def wsX6_clear_r2 : List Cond := [Cond.static arraycopyName, Cond.initialized "java/lang/System", Cond.fieldLink RX0 31 "TwoFacedTiles$Board" "places" "[I", Cond.fieldLink RX0 34 "TwoFacedTiles$Board" "looks" "[I", Cond.methodLink RX6 150 yX0_removeAllBut, Cond.instanceMethod yX0_removeAllBut, Cond.selects RX0 yX0_removeAllBut yX0_removeAllBut, Cond.code yX0_removeAllBut cX0_removeAllBut 4 (some .int), Cond.methodLink RX0 43 yX0_cells, Cond.instanceMethod yX0_cells, Cond.selects RX0 yX0_cells yX0_cells, Cond.code yX0_cells cX0_cells 1 (some .int), Cond.methodLink RX0 47 yX0_isEmpty, Cond.instanceMethod yX0_isEmpty, Cond.selects RX0 yX0_isEmpty yX0_isEmpty, Cond.code yX0_isEmpty cX0_isEmpty 2 (some .boolean), Cond.methodLink RX0 51 yX0_remove, Cond.instanceMethod yX0_remove, Cond.selects RX0 yX0_remove yX0_remove, Cond.code yX0_remove cX0_remove 2 none]
def wsX6_clear : List Cond := .code yX6_clear cX6_clear 1 (some .int) :: ((wsX6_clear_r1 ++ wsX6_clear_r2) ++ wsX60 ++ wsX00 ++ wsX20)
def wsX6_turnOver_r1 : List Cond := [Cond.fieldLink RX6 19 "TwoFacedTiles" "history" "LTwoFacedTiles$History;", Cond.fieldLink RX6 12 "TwoFacedTiles" "board" "LTwoFacedTiles$Board;", Cond.methodLink RX6 62 yX2_save, Cond.instanceMethod yX2_save, Cond.selects RX2 yX2_save yX2_save, Cond.initialized RX2, Cond.code yX2_save cX2_save 2 none, Cond.fieldLink RX2 21 "TwoFacedTiles$History" "kept" "I", Cond.fieldLink RX2 17 "TwoFacedTiles$History" "oldest" "I", Cond.fieldLink RX2 11 "TwoFacedTiles$History" "states" "[LTwoFacedTiles$Board;", Cond.methodLink RX2 25 yX0_copyFrom, Cond.instanceMethod yX0_copyFrom, Cond.selects RX0 yX0_copyFrom yX0_copyFrom, Cond.initialized RX0, Cond.code yX0_copyFrom cX0_copyFrom 2 none, Cond.fieldLink RX0 9 "TwoFacedTiles$Board" "rows" "I", Cond.fieldLink RX0 15 "TwoFacedTiles$Board" "columns" "I", Cond.fieldLink RX0 18 "TwoFacedTiles$Board" "rule" "I", Cond.fieldLink RX0 21 "TwoFacedTiles$Board" "tiles" "I", Cond.fieldLink RX0 24 "TwoFacedTiles$Board" "fixed" "I", Cond.fieldLink RX0 27 "TwoFacedTiles$Board" "placings" "[I", Cond.methodLink RX0 37 arraycopyName, Cond.native arraycopyName, Cond.static arraycopyName]
def wsX6_turnOver_r2 : List Cond := [Cond.initialized "java/lang/System", Cond.fieldLink RX0 31 "TwoFacedTiles$Board" "places" "[I", Cond.fieldLink RX0 34 "TwoFacedTiles$Board" "looks" "[I", Cond.methodLink RX6 154 yX0_mirror, Cond.instanceMethod yX0_mirror, Cond.selects RX0 yX0_mirror yX0_mirror, Cond.code yX0_mirror cX0_mirror 6 none, Cond.methodLink RX0 55 yX0_swapTurnedOver, Cond.instanceMethod yX0_swapTurnedOver, Cond.selects RX0 yX0_swapTurnedOver yX0_swapTurnedOver, Cond.code yX0_swapTurnedOver cX0_swapTurnedOver 4 none, Cond.static yX6_placingTurnedOver, Cond.initialized RX6, Cond.code yX6_placingTurnedOver cX6_placingTurnedOver 4 (some .int), Cond.methodLink RX0 43 yX0_cells, Cond.instanceMethod yX0_cells, Cond.selects RX0 yX0_cells yX0_cells, Cond.code yX0_cells cX0_cells 1 (some .int), Cond.methodLink RX0 47 yX0_isEmpty, Cond.instanceMethod yX0_isEmpty, Cond.selects RX0 yX0_isEmpty yX0_isEmpty, Cond.code yX0_isEmpty cX0_isEmpty 2 (some .boolean), Cond.methodLink RX6 66 yX0_cells, Cond.methodLink RX6 123 yX0_emptyCells]
def wsX6_turnOver_r3 : List Cond := [Cond.instanceMethod yX0_emptyCells, Cond.selects RX0 yX0_emptyCells yX0_emptyCells, Cond.code yX0_emptyCells cX0_emptyCells 3 (some .int)]
def wsX6_turnOver : List Cond := .code yX6_turnOver cX6_turnOver 1 (some .int) :: ((wsX6_turnOver_r1 ++ (wsX6_turnOver_r2 ++ wsX6_turnOver_r3)) ++ wsX60 ++ wsX20 ++ wsX00)
def wsX6_solve_r1 : List Cond := [Cond.classLink RX6 76 "java/lang/IllegalStateException", Cond.initialized "java/lang/IllegalStateException", Cond.fieldLink RX6 40 "TwoFacedTiles" "search" "LTwoFacedTiles$Search;", Cond.fieldLink RX6 12 "TwoFacedTiles" "board" "LTwoFacedTiles$Board;", Cond.fieldLink RX6 161 "TwoFacedTiles$Search" "found" "I", Cond.fieldLink RX6 19 "TwoFacedTiles" "history" "LTwoFacedTiles$History;", Cond.fieldLink RX6 166 "TwoFacedTiles$Search" "trial" "LTwoFacedTiles$Board;", Cond.methodLink RX6 157 yX4_run, Cond.instanceMethod yX4_run, Cond.selects RX4 yX4_run yX4_run, Cond.initialized RX4, Cond.code yX4_run cX4_run 3 none, Cond.fieldLink RX4 12 "TwoFacedTiles$Search" "trial" "LTwoFacedTiles$Board;", Cond.methodLink RX4 42 yX0_copyFrom, Cond.instanceMethod yX0_copyFrom, Cond.selects RX0 yX0_copyFrom yX0_copyFrom, Cond.initialized RX0, Cond.code yX0_copyFrom cX0_copyFrom 2 none, Cond.fieldLink RX0 9 "TwoFacedTiles$Board" "rows" "I", Cond.fieldLink RX0 15 "TwoFacedTiles$Board" "columns" "I", Cond.fieldLink RX0 18 "TwoFacedTiles$Board" "rule" "I", Cond.fieldLink RX0 21 "TwoFacedTiles$Board" "tiles" "I", Cond.fieldLink RX0 24 "TwoFacedTiles$Board" "fixed" "I", Cond.fieldLink RX0 27 "TwoFacedTiles$Board" "placings" "[I"]
def wsX6_solve_r2 : List Cond := [Cond.methodLink RX0 37 arraycopyName, Cond.native arraycopyName, Cond.static arraycopyName, Cond.initialized "java/lang/System", Cond.fieldLink RX0 31 "TwoFacedTiles$Board" "places" "[I", Cond.fieldLink RX0 34 "TwoFacedTiles$Board" "looks" "[I", Cond.methodLink RX4 46 yX4_runTrial, Cond.instanceMethod yX4_runTrial, Cond.selects RX4 yX4_runTrial yX4_runTrial, Cond.code yX4_runTrial cX4_runTrial 2 none, Cond.fieldLink RX4 28 "TwoFacedTiles$Search" "most" "I", Cond.fieldLink RX4 18 "TwoFacedTiles$Search" "found" "I", Cond.fieldLink RX4 31 "TwoFacedTiles$Search" "steps" "I", Cond.fieldLink RX4 34 "TwoFacedTiles$Search" "tooManySteps" "Z", Cond.fieldLink RX4 38 "TwoFacedTiles$Search" "over" "Z", Cond.methodLink RX4 54 yX4_fillFrom, Cond.instanceMethod yX4_fillFrom, Cond.selects RX4 yX4_fillFrom yX4_fillFrom, Cond.code yX4_fillFrom cX4_fillFrom 7 none, Cond.fieldLink RX4 24 "TwoFacedTiles$Search" "needs" "[LTwoFacedTiles$Needs;", Cond.fieldLink RX4 69 "TwoFacedTiles$Board" "tiles" "I", Cond.fieldLink RX4 75 "TwoFacedTiles$Board" "looks" "[I", Cond.methodLink RX4 57 yX0_cells, Cond.instanceMethod yX0_cells]
def wsX6_solve_r3 : List Cond := [Cond.selects RX0 yX0_cells yX0_cells, Cond.code yX0_cells cX0_cells 1 (some .int), Cond.methodLink RX4 61 yX0_isEmpty, Cond.instanceMethod yX0_isEmpty, Cond.selects RX0 yX0_isEmpty yX0_isEmpty, Cond.code yX0_isEmpty cX0_isEmpty 2 (some .boolean), Cond.methodLink RX4 65 yX3_read, Cond.instanceMethod yX3_read, Cond.selects RX3 yX3_read yX3_read, Cond.initialized RX3, Cond.code yX3_read cX3_read 6 none, Cond.fieldLink RX3 9 "TwoFacedTiles$Needs" "mustBeZero" "I", Cond.fieldLink RX3 15 "TwoFacedTiles$Needs" "mustAgree" "I", Cond.fieldLink RX3 18 "TwoFacedTiles$Needs" "wanted" "I", Cond.fieldLink RX3 21 "TwoFacedTiles$Needs" "forbiddenZero" "Z", Cond.fieldLink RX3 25 "TwoFacedTiles$Board" "rule" "I", Cond.methodLink RX3 30 yX3_ruledColors, Cond.static yX3_ruledColors, Cond.code yX3_ruledColors cX3_ruledColors 1 (some .int), Cond.constant RX3 55 (983055), Cond.methodLink RX3 34 yX0_neighbor, Cond.instanceMethod yX0_neighbor, Cond.selects RX0 yX0_neighbor yX0_neighbor, Cond.code yX0_neighbor cX0_neighbor 4 (some .int)]
def wsX6_solve_r4 : List Cond := [Cond.methodLink RX0 43 yX0_cells, Cond.methodLink RX3 38 yX0_isEmpty, Cond.methodLink RX3 42 yX0_lookIn, Cond.instanceMethod yX0_lookIn, Cond.selects RX0 yX0_lookIn yX0_lookIn, Cond.code yX0_lookIn cX0_lookIn 2 (some .int), Cond.static yX6_opposite, Cond.initialized RX6, Cond.code yX6_opposite cX6_opposite 1 (some .int), Cond.static yX6_colorsAt, Cond.code yX6_colorsAt cX6_colorsAt 2 (some .int), Cond.constant RX6 321 (983055), Cond.methodLink RX3 51 yX3_readNeighbor, Cond.instanceMethod yX3_readNeighbor, Cond.selects RX3 yX3_readNeighbor yX3_readNeighbor, Cond.code yX3_readNeighbor cX3_readNeighbor 4 none, Cond.constant RX3 56 (983040), Cond.methodLink RX4 72 yX0_isLaid, Cond.instanceMethod yX0_isLaid, Cond.selects RX0 yX0_isLaid yX0_isLaid, Cond.code yX0_isLaid cX0_isLaid 2 (some .boolean), Cond.methodLink RX4 79 yX3_reasonAgainst, Cond.instanceMethod yX3_reasonAgainst, Cond.selects RX3 yX3_reasonAgainst yX3_reasonAgainst]
def wsX6_solve_r5 : List Cond := [Cond.code yX3_reasonAgainst cX3_reasonAgainst 3 (some .int), Cond.constant RX3 57 (65535), Cond.methodLink RX4 82 yX4_tryPlacing, Cond.instanceMethod yX4_tryPlacing, Cond.selects RX4 yX4_tryPlacing yX4_tryPlacing, Cond.code yX4_tryPlacing cX4_tryPlacing 3 none, Cond.methodLink RX4 86 yX0_put, Cond.instanceMethod yX0_put, Cond.selects RX0 yX0_put yX0_put, Cond.code yX0_put cX0_put 3 none, Cond.methodLink RX4 89 yX0_remove, Cond.instanceMethod yX0_remove, Cond.selects RX0 yX0_remove yX0_remove, Cond.code yX0_remove cX0_remove 2 none, Cond.methodLink RX6 62 yX2_save, Cond.instanceMethod yX2_save, Cond.selects RX2 yX2_save yX2_save, Cond.initialized RX2, Cond.code yX2_save cX2_save 2 none, Cond.fieldLink RX2 21 "TwoFacedTiles$History" "kept" "I", Cond.fieldLink RX2 17 "TwoFacedTiles$History" "oldest" "I", Cond.fieldLink RX2 11 "TwoFacedTiles$History" "states" "[LTwoFacedTiles$Board;", Cond.methodLink RX2 25 yX0_copyFrom, Cond.methodLink RX6 123 yX0_emptyCells]
def wsX6_solve_r6 : List Cond := [Cond.instanceMethod yX0_emptyCells, Cond.selects RX0 yX0_emptyCells yX0_emptyCells, Cond.code yX0_emptyCells cX0_emptyCells 3 (some .int), Cond.methodLink RX0 47 yX0_isEmpty, Cond.methodLink RX6 169 yX0_copyFrom]
def wsX6_solve : List Cond := .code yX6_solve cX6_solve 2 (some .int) :: ((wsX6_solve_r1 ++ (wsX6_solve_r2 ++ (wsX6_solve_r3 ++ (wsX6_solve_r4 ++ (wsX6_solve_r5 ++ wsX6_solve_r6))))) ++ wsX60 ++ wsX40 ++ wsX00 ++ wsX30 ++ wsX20 ++ (vx_atS RX6 80 "java/lang/IllegalStateException" ["java/lang/RuntimeException", "java/lang/Exception"]).filter goodWord)
def wsX6_undo_r1 : List Cond := [Cond.classLink RX6 76 "java/lang/IllegalStateException", Cond.initialized "java/lang/IllegalStateException", Cond.fieldLink RX6 19 "TwoFacedTiles" "history" "LTwoFacedTiles$History;", Cond.fieldLink RX6 199 "TwoFacedTiles$History" "kept" "I", Cond.fieldLink RX6 12 "TwoFacedTiles" "board" "LTwoFacedTiles$Board;", Cond.methodLink RX6 204 yX2_restore, Cond.instanceMethod yX2_restore, Cond.selects RX2 yX2_restore yX2_restore, Cond.initialized RX2, Cond.code yX2_restore cX2_restore 2 none, Cond.fieldLink RX2 21 "TwoFacedTiles$History" "kept" "I", Cond.fieldLink RX2 11 "TwoFacedTiles$History" "states" "[LTwoFacedTiles$Board;", Cond.fieldLink RX2 17 "TwoFacedTiles$History" "oldest" "I", Cond.methodLink RX2 25 yX0_copyFrom, Cond.instanceMethod yX0_copyFrom, Cond.selects RX0 yX0_copyFrom yX0_copyFrom, Cond.initialized RX0, Cond.code yX0_copyFrom cX0_copyFrom 2 none, Cond.fieldLink RX0 9 "TwoFacedTiles$Board" "rows" "I", Cond.fieldLink RX0 15 "TwoFacedTiles$Board" "columns" "I", Cond.fieldLink RX0 18 "TwoFacedTiles$Board" "rule" "I", Cond.fieldLink RX0 21 "TwoFacedTiles$Board" "tiles" "I", Cond.fieldLink RX0 24 "TwoFacedTiles$Board" "fixed" "I", Cond.fieldLink RX0 27 "TwoFacedTiles$Board" "placings" "[I"]
def wsX6_undo_r2 : List Cond := [Cond.methodLink RX0 37 arraycopyName, Cond.native arraycopyName, Cond.static arraycopyName, Cond.initialized "java/lang/System", Cond.fieldLink RX0 31 "TwoFacedTiles$Board" "places" "[I", Cond.fieldLink RX0 34 "TwoFacedTiles$Board" "looks" "[I"]
def wsX6_undo : List Cond := .code yX6_undo cX6_undo 1 (some .int) :: ((wsX6_undo_r1 ++ wsX6_undo_r2) ++ wsX60 ++ wsX20 ++ wsX00 ++ (vx_atS RX6 80 "java/lang/IllegalStateException" ["java/lang/RuntimeException", "java/lang/Exception"]).filter goodWord)
def wsX6_meetsNeeds : List Cond := .code yX6_meetsNeeds cX6_meetsNeeds 2 (some .boolean) :: ([.fieldLink RX6 12 "TwoFacedTiles" "board" "LTwoFacedTiles$Board;", .fieldLink RX6 33 "TwoFacedTiles" "needs" "LTwoFacedTiles$Needs;", .fieldLink RX6 278 "TwoFacedTiles$Board" "looks" "[I", .methodLink RX6 84 yX0_isLaid, .instanceMethod yX0_isLaid, .selects RX0 yX0_isLaid yX0_isLaid, .initialized RX0, .code yX0_isLaid cX0_isLaid 2 (some .boolean), .fieldLink RX0 31 "TwoFacedTiles$Board" "places" "[I", .methodLink RX6 281 yX3_reasonAgainst, .instanceMethod yX3_reasonAgainst, .selects RX3 yX3_reasonAgainst yX3_reasonAgainst, .initialized RX3, .code yX3_reasonAgainst cX3_reasonAgainst 3 (some .int), .fieldLink RX3 9 "TwoFacedTiles$Needs" "mustBeZero" "I", .fieldLink RX3 18 "TwoFacedTiles$Needs" "wanted" "I", .fieldLink RX3 15 "TwoFacedTiles$Needs" "mustAgree" "I", .constant RX3 57 (65535), .fieldLink RX3 21 "TwoFacedTiles$Needs" "forbiddenZero" "Z"] ++ wsX60 ++ wsX00 ++ wsX30)
def wsX6_possibleCount_r1 : List Cond := [Cond.fieldLink RX6 12 "TwoFacedTiles" "board" "LTwoFacedTiles$Board;", Cond.fieldLink RX6 33 "TwoFacedTiles" "needs" "LTwoFacedTiles$Needs;", Cond.fieldLink RX6 72 "TwoFacedTiles$Board" "tiles" "I", Cond.methodLink RX6 130 yX0_isEmpty, Cond.instanceMethod yX0_isEmpty, Cond.selects RX0 yX0_isEmpty yX0_isEmpty, Cond.initialized RX0, Cond.code yX0_isEmpty cX0_isEmpty 2 (some .boolean), Cond.fieldLink RX0 27 "TwoFacedTiles$Board" "placings" "[I", Cond.methodLink RX6 275 yX3_read, Cond.instanceMethod yX3_read, Cond.selects RX3 yX3_read yX3_read, Cond.initialized RX3, Cond.code yX3_read cX3_read 6 none, Cond.fieldLink RX3 9 "TwoFacedTiles$Needs" "mustBeZero" "I", Cond.fieldLink RX3 15 "TwoFacedTiles$Needs" "mustAgree" "I", Cond.fieldLink RX3 18 "TwoFacedTiles$Needs" "wanted" "I", Cond.fieldLink RX3 21 "TwoFacedTiles$Needs" "forbiddenZero" "Z", Cond.fieldLink RX3 25 "TwoFacedTiles$Board" "rule" "I", Cond.methodLink RX3 30 yX3_ruledColors, Cond.static yX3_ruledColors, Cond.code yX3_ruledColors cX3_ruledColors 1 (some .int), Cond.constant RX3 55 (983055), Cond.methodLink RX3 34 yX0_neighbor]
def wsX6_possibleCount_r2 : List Cond := [Cond.instanceMethod yX0_neighbor, Cond.selects RX0 yX0_neighbor yX0_neighbor, Cond.code yX0_neighbor cX0_neighbor 4 (some .int), Cond.fieldLink RX0 15 "TwoFacedTiles$Board" "columns" "I", Cond.methodLink RX0 43 yX0_cells, Cond.instanceMethod yX0_cells, Cond.selects RX0 yX0_cells yX0_cells, Cond.code yX0_cells cX0_cells 1 (some .int), Cond.fieldLink RX0 9 "TwoFacedTiles$Board" "rows" "I", Cond.methodLink RX3 38 yX0_isEmpty, Cond.methodLink RX3 42 yX0_lookIn, Cond.instanceMethod yX0_lookIn, Cond.selects RX0 yX0_lookIn yX0_lookIn, Cond.code yX0_lookIn cX0_lookIn 2 (some .int), Cond.fieldLink RX0 34 "TwoFacedTiles$Board" "looks" "[I", Cond.static yX6_opposite, Cond.initialized RX6, Cond.code yX6_opposite cX6_opposite 1 (some .int), Cond.static yX6_colorsAt, Cond.code yX6_colorsAt cX6_colorsAt 2 (some .int), Cond.constant RX6 321 (983055), Cond.methodLink RX3 51 yX3_readNeighbor, Cond.instanceMethod yX3_readNeighbor, Cond.selects RX3 yX3_readNeighbor yX3_readNeighbor]
def wsX6_possibleCount_r3 : List Cond := [Cond.code yX3_readNeighbor cX3_readNeighbor 4 none, Cond.constant RX3 56 (983040), Cond.methodLink RX6 290 yX6_meetsNeeds, Cond.instanceMethod yX6_meetsNeeds, Cond.selects RX6 yX6_meetsNeeds yX6_meetsNeeds, Cond.code yX6_meetsNeeds cX6_meetsNeeds 2 (some .boolean), Cond.fieldLink RX6 278 "TwoFacedTiles$Board" "looks" "[I", Cond.methodLink RX6 84 yX0_isLaid, Cond.instanceMethod yX0_isLaid, Cond.selects RX0 yX0_isLaid yX0_isLaid, Cond.code yX0_isLaid cX0_isLaid 2 (some .boolean), Cond.fieldLink RX0 31 "TwoFacedTiles$Board" "places" "[I", Cond.methodLink RX6 281 yX3_reasonAgainst, Cond.instanceMethod yX3_reasonAgainst, Cond.selects RX3 yX3_reasonAgainst yX3_reasonAgainst, Cond.code yX3_reasonAgainst cX3_reasonAgainst 3 (some .int), Cond.constant RX3 57 (65535)]
def wsX6_possibleCount : List Cond := .code yX6_possibleCount cX6_possibleCount 4 (some .int) :: ((wsX6_possibleCount_r1 ++ (wsX6_possibleCount_r2 ++ wsX6_possibleCount_r3)) ++ wsX60 ++ wsX00 ++ wsX30)
def wsX6_firstPossible_r1 : List Cond := [Cond.fieldLink RX6 12 "TwoFacedTiles" "board" "LTwoFacedTiles$Board;", Cond.fieldLink RX6 33 "TwoFacedTiles" "needs" "LTwoFacedTiles$Needs;", Cond.fieldLink RX6 72 "TwoFacedTiles$Board" "tiles" "I", Cond.methodLink RX6 130 yX0_isEmpty, Cond.instanceMethod yX0_isEmpty, Cond.selects RX0 yX0_isEmpty yX0_isEmpty, Cond.initialized RX0, Cond.code yX0_isEmpty cX0_isEmpty 2 (some .boolean), Cond.fieldLink RX0 27 "TwoFacedTiles$Board" "placings" "[I", Cond.methodLink RX6 275 yX3_read, Cond.instanceMethod yX3_read, Cond.selects RX3 yX3_read yX3_read, Cond.initialized RX3, Cond.code yX3_read cX3_read 6 none, Cond.fieldLink RX3 9 "TwoFacedTiles$Needs" "mustBeZero" "I", Cond.fieldLink RX3 15 "TwoFacedTiles$Needs" "mustAgree" "I", Cond.fieldLink RX3 18 "TwoFacedTiles$Needs" "wanted" "I", Cond.fieldLink RX3 21 "TwoFacedTiles$Needs" "forbiddenZero" "Z", Cond.fieldLink RX3 25 "TwoFacedTiles$Board" "rule" "I", Cond.methodLink RX3 30 yX3_ruledColors, Cond.static yX3_ruledColors, Cond.code yX3_ruledColors cX3_ruledColors 1 (some .int), Cond.constant RX3 55 (983055), Cond.methodLink RX3 34 yX0_neighbor]
def wsX6_firstPossible_r2 : List Cond := [Cond.instanceMethod yX0_neighbor, Cond.selects RX0 yX0_neighbor yX0_neighbor, Cond.code yX0_neighbor cX0_neighbor 4 (some .int), Cond.fieldLink RX0 15 "TwoFacedTiles$Board" "columns" "I", Cond.methodLink RX0 43 yX0_cells, Cond.instanceMethod yX0_cells, Cond.selects RX0 yX0_cells yX0_cells, Cond.code yX0_cells cX0_cells 1 (some .int), Cond.fieldLink RX0 9 "TwoFacedTiles$Board" "rows" "I", Cond.methodLink RX3 38 yX0_isEmpty, Cond.methodLink RX3 42 yX0_lookIn, Cond.instanceMethod yX0_lookIn, Cond.selects RX0 yX0_lookIn yX0_lookIn, Cond.code yX0_lookIn cX0_lookIn 2 (some .int), Cond.fieldLink RX0 34 "TwoFacedTiles$Board" "looks" "[I", Cond.static yX6_opposite, Cond.initialized RX6, Cond.code yX6_opposite cX6_opposite 1 (some .int), Cond.static yX6_colorsAt, Cond.code yX6_colorsAt cX6_colorsAt 2 (some .int), Cond.constant RX6 321 (983055), Cond.methodLink RX3 51 yX3_readNeighbor, Cond.instanceMethod yX3_readNeighbor, Cond.selects RX3 yX3_readNeighbor yX3_readNeighbor]
def wsX6_firstPossible_r3 : List Cond := [Cond.code yX3_readNeighbor cX3_readNeighbor 4 none, Cond.constant RX3 56 (983040), Cond.methodLink RX6 290 yX6_meetsNeeds, Cond.instanceMethod yX6_meetsNeeds, Cond.selects RX6 yX6_meetsNeeds yX6_meetsNeeds, Cond.code yX6_meetsNeeds cX6_meetsNeeds 2 (some .boolean), Cond.fieldLink RX6 278 "TwoFacedTiles$Board" "looks" "[I", Cond.methodLink RX6 84 yX0_isLaid, Cond.instanceMethod yX0_isLaid, Cond.selects RX0 yX0_isLaid yX0_isLaid, Cond.code yX0_isLaid cX0_isLaid 2 (some .boolean), Cond.fieldLink RX0 31 "TwoFacedTiles$Board" "places" "[I", Cond.methodLink RX6 281 yX3_reasonAgainst, Cond.instanceMethod yX3_reasonAgainst, Cond.selects RX3 yX3_reasonAgainst yX3_reasonAgainst, Cond.code yX3_reasonAgainst cX3_reasonAgainst 3 (some .int), Cond.constant RX3 57 (65535)]
def wsX6_firstPossible : List Cond := .code yX6_firstPossible cX6_firstPossible 3 (some .int) :: ((wsX6_firstPossible_r1 ++ (wsX6_firstPossible_r2 ++ wsX6_firstPossible_r3)) ++ wsX60 ++ wsX00 ++ wsX30)
def wsX6_cellProperty_r1 : List Cond := [Cond.fieldLink RX6 12 "TwoFacedTiles" "board" "LTwoFacedTiles$Board;", Cond.fieldLink RX6 138 "TwoFacedTiles$Board" "placings" "[I", Cond.methodLink RX6 133 yX0_isFixed, Cond.instanceMethod yX0_isFixed, Cond.selects RX0 yX0_isFixed yX0_isFixed, Cond.initialized RX0, Cond.code yX0_isFixed cX0_isFixed 2 (some .boolean), Cond.fieldLink RX0 24 "TwoFacedTiles$Board" "fixed" "I", Cond.methodLink RX6 284 yX6_possibleCount, Cond.instanceMethod yX6_possibleCount, Cond.selects RX6 yX6_possibleCount yX6_possibleCount, Cond.initialized RX6, Cond.code yX6_possibleCount cX6_possibleCount 4 (some .int), Cond.fieldLink RX6 33 "TwoFacedTiles" "needs" "LTwoFacedTiles$Needs;", Cond.fieldLink RX6 72 "TwoFacedTiles$Board" "tiles" "I", Cond.methodLink RX6 130 yX0_isEmpty, Cond.instanceMethod yX0_isEmpty, Cond.selects RX0 yX0_isEmpty yX0_isEmpty, Cond.code yX0_isEmpty cX0_isEmpty 2 (some .boolean), Cond.fieldLink RX0 27 "TwoFacedTiles$Board" "placings" "[I", Cond.methodLink RX6 275 yX3_read, Cond.instanceMethod yX3_read, Cond.selects RX3 yX3_read yX3_read, Cond.initialized RX3]
def wsX6_cellProperty_r2 : List Cond := [Cond.code yX3_read cX3_read 6 none, Cond.fieldLink RX3 9 "TwoFacedTiles$Needs" "mustBeZero" "I", Cond.fieldLink RX3 15 "TwoFacedTiles$Needs" "mustAgree" "I", Cond.fieldLink RX3 18 "TwoFacedTiles$Needs" "wanted" "I", Cond.fieldLink RX3 21 "TwoFacedTiles$Needs" "forbiddenZero" "Z", Cond.fieldLink RX3 25 "TwoFacedTiles$Board" "rule" "I", Cond.methodLink RX3 30 yX3_ruledColors, Cond.static yX3_ruledColors, Cond.code yX3_ruledColors cX3_ruledColors 1 (some .int), Cond.constant RX3 55 (983055), Cond.methodLink RX3 34 yX0_neighbor, Cond.instanceMethod yX0_neighbor, Cond.selects RX0 yX0_neighbor yX0_neighbor, Cond.code yX0_neighbor cX0_neighbor 4 (some .int), Cond.fieldLink RX0 15 "TwoFacedTiles$Board" "columns" "I", Cond.methodLink RX0 43 yX0_cells, Cond.instanceMethod yX0_cells, Cond.selects RX0 yX0_cells yX0_cells, Cond.code yX0_cells cX0_cells 1 (some .int), Cond.fieldLink RX0 9 "TwoFacedTiles$Board" "rows" "I", Cond.methodLink RX3 38 yX0_isEmpty, Cond.methodLink RX3 42 yX0_lookIn, Cond.instanceMethod yX0_lookIn, Cond.selects RX0 yX0_lookIn yX0_lookIn]
def wsX6_cellProperty_r3 : List Cond := [Cond.code yX0_lookIn cX0_lookIn 2 (some .int), Cond.fieldLink RX0 34 "TwoFacedTiles$Board" "looks" "[I", Cond.static yX6_opposite, Cond.code yX6_opposite cX6_opposite 1 (some .int), Cond.static yX6_colorsAt, Cond.code yX6_colorsAt cX6_colorsAt 2 (some .int), Cond.constant RX6 321 (983055), Cond.methodLink RX3 51 yX3_readNeighbor, Cond.instanceMethod yX3_readNeighbor, Cond.selects RX3 yX3_readNeighbor yX3_readNeighbor, Cond.code yX3_readNeighbor cX3_readNeighbor 4 none, Cond.constant RX3 56 (983040), Cond.methodLink RX6 290 yX6_meetsNeeds, Cond.instanceMethod yX6_meetsNeeds, Cond.selects RX6 yX6_meetsNeeds yX6_meetsNeeds, Cond.code yX6_meetsNeeds cX6_meetsNeeds 2 (some .boolean), Cond.fieldLink RX6 278 "TwoFacedTiles$Board" "looks" "[I", Cond.methodLink RX6 84 yX0_isLaid, Cond.instanceMethod yX0_isLaid, Cond.selects RX0 yX0_isLaid yX0_isLaid, Cond.code yX0_isLaid cX0_isLaid 2 (some .boolean), Cond.fieldLink RX0 31 "TwoFacedTiles$Board" "places" "[I", Cond.methodLink RX6 281 yX3_reasonAgainst, Cond.instanceMethod yX3_reasonAgainst]
def wsX6_cellProperty_r4 : List Cond := [Cond.selects RX3 yX3_reasonAgainst yX3_reasonAgainst, Cond.code yX3_reasonAgainst cX3_reasonAgainst 3 (some .int), Cond.constant RX3 57 (65535), Cond.methodLink RX6 287 yX6_firstPossible, Cond.instanceMethod yX6_firstPossible, Cond.selects RX6 yX6_firstPossible yX6_firstPossible, Cond.code yX6_firstPossible cX6_firstPossible 3 (some .int)]
def wsX6_cellProperty : List Cond := .code yX6_cellProperty cX6_cellProperty 3 (some .int) :: ((wsX6_cellProperty_r1 ++ (wsX6_cellProperty_r2 ++ (wsX6_cellProperty_r3 ++ wsX6_cellProperty_r4))) ++ wsX60 ++ wsX00 ++ wsX30)
def wsX6_cell_r1 : List Cond := [Cond.classLink RX6 55 "java/lang/IllegalArgumentException", Cond.initialized "java/lang/IllegalArgumentException", Cond.methodLink RX6 126 yX6_requireCell, Cond.instanceMethod yX6_requireCell, Cond.selects RX6 yX6_requireCell yX6_requireCell, Cond.initialized RX6, Cond.code yX6_requireCell cX6_requireCell 2 none, Cond.classLink RX6 212 "java/lang/IndexOutOfBoundsException", Cond.initialized "java/lang/IndexOutOfBoundsException", Cond.fieldLink RX6 12 "TwoFacedTiles" "board" "LTwoFacedTiles$Board;", Cond.methodLink RX6 267 yX0_hasCell, Cond.instanceMethod yX0_hasCell, Cond.selects RX0 yX0_hasCell yX0_hasCell, Cond.initialized RX0, Cond.code yX0_hasCell cX0_hasCell 2 (some .boolean), Cond.methodLink RX0 43 yX0_cells, Cond.instanceMethod yX0_cells, Cond.selects RX0 yX0_cells yX0_cells, Cond.code yX0_cells cX0_cells 1 (some .int), Cond.fieldLink RX0 9 "TwoFacedTiles$Board" "rows" "I", Cond.fieldLink RX0 15 "TwoFacedTiles$Board" "columns" "I", Cond.methodLink RX6 209 yX6_cellProperty, Cond.instanceMethod yX6_cellProperty, Cond.selects RX6 yX6_cellProperty yX6_cellProperty]
def wsX6_cell_r2 : List Cond := [Cond.code yX6_cellProperty cX6_cellProperty 3 (some .int), Cond.fieldLink RX6 138 "TwoFacedTiles$Board" "placings" "[I", Cond.methodLink RX6 133 yX0_isFixed, Cond.instanceMethod yX0_isFixed, Cond.selects RX0 yX0_isFixed yX0_isFixed, Cond.code yX0_isFixed cX0_isFixed 2 (some .boolean), Cond.fieldLink RX0 24 "TwoFacedTiles$Board" "fixed" "I", Cond.methodLink RX6 284 yX6_possibleCount, Cond.instanceMethod yX6_possibleCount, Cond.selects RX6 yX6_possibleCount yX6_possibleCount, Cond.code yX6_possibleCount cX6_possibleCount 4 (some .int), Cond.fieldLink RX6 33 "TwoFacedTiles" "needs" "LTwoFacedTiles$Needs;", Cond.fieldLink RX6 72 "TwoFacedTiles$Board" "tiles" "I", Cond.methodLink RX6 130 yX0_isEmpty, Cond.instanceMethod yX0_isEmpty, Cond.selects RX0 yX0_isEmpty yX0_isEmpty, Cond.code yX0_isEmpty cX0_isEmpty 2 (some .boolean), Cond.fieldLink RX0 27 "TwoFacedTiles$Board" "placings" "[I", Cond.methodLink RX6 275 yX3_read, Cond.instanceMethod yX3_read, Cond.selects RX3 yX3_read yX3_read, Cond.initialized RX3, Cond.code yX3_read cX3_read 6 none, Cond.fieldLink RX3 9 "TwoFacedTiles$Needs" "mustBeZero" "I"]
def wsX6_cell_r3 : List Cond := [Cond.fieldLink RX3 15 "TwoFacedTiles$Needs" "mustAgree" "I", Cond.fieldLink RX3 18 "TwoFacedTiles$Needs" "wanted" "I", Cond.fieldLink RX3 21 "TwoFacedTiles$Needs" "forbiddenZero" "Z", Cond.fieldLink RX3 25 "TwoFacedTiles$Board" "rule" "I", Cond.methodLink RX3 30 yX3_ruledColors, Cond.static yX3_ruledColors, Cond.code yX3_ruledColors cX3_ruledColors 1 (some .int), Cond.constant RX3 55 (983055), Cond.methodLink RX3 34 yX0_neighbor, Cond.instanceMethod yX0_neighbor, Cond.selects RX0 yX0_neighbor yX0_neighbor, Cond.code yX0_neighbor cX0_neighbor 4 (some .int), Cond.methodLink RX3 38 yX0_isEmpty, Cond.methodLink RX3 42 yX0_lookIn, Cond.instanceMethod yX0_lookIn, Cond.selects RX0 yX0_lookIn yX0_lookIn, Cond.code yX0_lookIn cX0_lookIn 2 (some .int), Cond.fieldLink RX0 34 "TwoFacedTiles$Board" "looks" "[I", Cond.static yX6_opposite, Cond.code yX6_opposite cX6_opposite 1 (some .int), Cond.static yX6_colorsAt, Cond.code yX6_colorsAt cX6_colorsAt 2 (some .int), Cond.constant RX6 321 (983055), Cond.methodLink RX3 51 yX3_readNeighbor]
def wsX6_cell_r4 : List Cond := [Cond.instanceMethod yX3_readNeighbor, Cond.selects RX3 yX3_readNeighbor yX3_readNeighbor, Cond.code yX3_readNeighbor cX3_readNeighbor 4 none, Cond.constant RX3 56 (983040), Cond.methodLink RX6 290 yX6_meetsNeeds, Cond.instanceMethod yX6_meetsNeeds, Cond.selects RX6 yX6_meetsNeeds yX6_meetsNeeds, Cond.code yX6_meetsNeeds cX6_meetsNeeds 2 (some .boolean), Cond.fieldLink RX6 278 "TwoFacedTiles$Board" "looks" "[I", Cond.methodLink RX6 84 yX0_isLaid, Cond.instanceMethod yX0_isLaid, Cond.selects RX0 yX0_isLaid yX0_isLaid, Cond.code yX0_isLaid cX0_isLaid 2 (some .boolean), Cond.fieldLink RX0 31 "TwoFacedTiles$Board" "places" "[I", Cond.methodLink RX6 281 yX3_reasonAgainst, Cond.instanceMethod yX3_reasonAgainst, Cond.selects RX3 yX3_reasonAgainst yX3_reasonAgainst, Cond.code yX3_reasonAgainst cX3_reasonAgainst 3 (some .int), Cond.constant RX3 57 (65535), Cond.methodLink RX6 287 yX6_firstPossible, Cond.instanceMethod yX6_firstPossible, Cond.selects RX6 yX6_firstPossible yX6_firstPossible, Cond.code yX6_firstPossible cX6_firstPossible 3 (some .int)]
def wsX6_cell : List Cond := .code yX6_cell cX6_cell 3 (some .int) :: ((wsX6_cell_r1 ++ (wsX6_cell_r2 ++ (wsX6_cell_r3 ++ wsX6_cell_r4))) ++ wsX60 ++ wsX00 ++ wsX30 ++ (vx_atS RX6 59 "java/lang/IllegalArgumentException" ["java/lang/RuntimeException", "java/lang/Exception"]).filter goodWord ++ (vx_atS RX6 216 "java/lang/IndexOutOfBoundsException" ["java/lang/RuntimeException", "java/lang/Exception"]).filter goodWord)
def wsX6_colorAt : List Cond := .code yX6_colorAt cX6_colorAt 5 (some .int) :: ([.fieldLink RX6 12 "TwoFacedTiles" "board" "LTwoFacedTiles$Board;", .methodLink RX6 130 yX0_isEmpty, .instanceMethod yX0_isEmpty, .selects RX0 yX0_isEmpty yX0_isEmpty, .initialized RX0, .code yX0_isEmpty cX0_isEmpty 2 (some .boolean), .fieldLink RX0 27 "TwoFacedTiles$Board" "placings" "[I", .methodLink RX6 293 yX0_lookIn, .instanceMethod yX0_lookIn, .selects RX0 yX0_lookIn yX0_lookIn, .code yX0_lookIn cX0_lookIn 2 (some .int), .fieldLink RX0 34 "TwoFacedTiles$Board" "looks" "[I", .methodLink RX6 296 yX6_colorsAt, .static yX6_colorsAt, .initialized RX6, .code yX6_colorsAt cX6_colorsAt 2 (some .int), .constant RX6 321 (983055)] ++ wsX60 ++ wsX00)
def wsX6_color_r1 : List Cond := [Cond.classLink RX6 212 "java/lang/IndexOutOfBoundsException", Cond.initialized "java/lang/IndexOutOfBoundsException", Cond.methodLink RX6 126 yX6_requireCell, Cond.instanceMethod yX6_requireCell, Cond.selects RX6 yX6_requireCell yX6_requireCell, Cond.initialized RX6, Cond.code yX6_requireCell cX6_requireCell 2 none, Cond.fieldLink RX6 12 "TwoFacedTiles" "board" "LTwoFacedTiles$Board;", Cond.methodLink RX6 267 yX0_hasCell, Cond.instanceMethod yX0_hasCell, Cond.selects RX0 yX0_hasCell yX0_hasCell, Cond.initialized RX0, Cond.code yX0_hasCell cX0_hasCell 2 (some .boolean), Cond.methodLink RX0 43 yX0_cells, Cond.instanceMethod yX0_cells, Cond.selects RX0 yX0_cells yX0_cells, Cond.code yX0_cells cX0_cells 1 (some .int), Cond.fieldLink RX0 9 "TwoFacedTiles$Board" "rows" "I", Cond.fieldLink RX0 15 "TwoFacedTiles$Board" "columns" "I", Cond.methodLink RX6 217 yX6_colorAt, Cond.instanceMethod yX6_colorAt, Cond.selects RX6 yX6_colorAt yX6_colorAt, Cond.code yX6_colorAt cX6_colorAt 5 (some .int), Cond.methodLink RX6 130 yX0_isEmpty]
def wsX6_color_r2 : List Cond := [Cond.instanceMethod yX0_isEmpty, Cond.selects RX0 yX0_isEmpty yX0_isEmpty, Cond.code yX0_isEmpty cX0_isEmpty 2 (some .boolean), Cond.fieldLink RX0 27 "TwoFacedTiles$Board" "placings" "[I", Cond.methodLink RX6 293 yX0_lookIn, Cond.instanceMethod yX0_lookIn, Cond.selects RX0 yX0_lookIn yX0_lookIn, Cond.code yX0_lookIn cX0_lookIn 2 (some .int), Cond.fieldLink RX0 34 "TwoFacedTiles$Board" "looks" "[I", Cond.methodLink RX6 296 yX6_colorsAt, Cond.static yX6_colorsAt, Cond.code yX6_colorsAt cX6_colorsAt 2 (some .int), Cond.constant RX6 321 (983055)]
def wsX6_color : List Cond := .code yX6_color cX6_color 4 (some .int) :: ((wsX6_color_r1 ++ wsX6_color_r2) ++ wsX60 ++ wsX00 ++ (vx_atS RX6 216 "java/lang/IndexOutOfBoundsException" ["java/lang/RuntimeException", "java/lang/Exception"]).filter goodWord)
def wsX6_tileProperty : List Cond := .code yX6_tileProperty cX6_tileProperty 3 (some .int) :: ([.fieldLink RX6 12 "TwoFacedTiles" "board" "LTwoFacedTiles$Board;", .fieldLink RX6 302 "TwoFacedTiles$Board" "places" "[I", .methodLink RX6 299 yX0_faceOf, .instanceMethod yX0_faceOf, .selects RX0 yX0_faceOf yX0_faceOf, .initialized RX0, .code yX0_faceOf cX0_faceOf 6 (some .int), .fieldLink RX0 34 "TwoFacedTiles$Board" "looks" "[I", .static yX6_colorsAt, .initialized RX6, .code yX6_colorsAt cX6_colorsAt 2 (some .int), .constant RX6 321 (983055), .methodLink RX6 305 yX0_lowestLike, .instanceMethod yX0_lowestLike, .selects RX0 yX0_lowestLike yX0_lowestLike, .code yX0_lowestLike cX0_lowestLike 4 (some .int)] ++ wsX60 ++ wsX00)
def wsX6_tile_r1 : List Cond := [Cond.classLink RX6 212 "java/lang/IndexOutOfBoundsException", Cond.initialized "java/lang/IndexOutOfBoundsException", Cond.classLink RX6 55 "java/lang/IllegalArgumentException", Cond.initialized "java/lang/IllegalArgumentException", Cond.fieldLink RX6 12 "TwoFacedTiles" "board" "LTwoFacedTiles$Board;", Cond.fieldLink RX6 72 "TwoFacedTiles$Board" "tiles" "I", Cond.methodLink RX6 223 yX6_tileProperty, Cond.instanceMethod yX6_tileProperty, Cond.selects RX6 yX6_tileProperty yX6_tileProperty, Cond.initialized RX6, Cond.code yX6_tileProperty cX6_tileProperty 3 (some .int), Cond.fieldLink RX6 302 "TwoFacedTiles$Board" "places" "[I", Cond.methodLink RX6 299 yX0_faceOf, Cond.instanceMethod yX0_faceOf, Cond.selects RX0 yX0_faceOf yX0_faceOf, Cond.initialized RX0, Cond.code yX0_faceOf cX0_faceOf 6 (some .int), Cond.fieldLink RX0 34 "TwoFacedTiles$Board" "looks" "[I", Cond.static yX6_colorsAt, Cond.code yX6_colorsAt cX6_colorsAt 2 (some .int), Cond.constant RX6 321 (983055), Cond.methodLink RX6 305 yX0_lowestLike, Cond.instanceMethod yX0_lowestLike, Cond.selects RX0 yX0_lowestLike yX0_lowestLike]
def wsX6_tile_r2 : List Cond := [Cond.code yX0_lowestLike cX0_lowestLike 4 (some .int)]
def wsX6_tile : List Cond := .code yX6_tile cX6_tile 3 (some .int) :: ((wsX6_tile_r1 ++ wsX6_tile_r2) ++ wsX60 ++ wsX00 ++ (vx_atS RX6 216 "java/lang/IndexOutOfBoundsException" ["java/lang/RuntimeException", "java/lang/Exception"]).filter goodWord ++ (vx_atS RX6 59 "java/lang/IllegalArgumentException" ["java/lang/RuntimeException", "java/lang/Exception"]).filter goodWord)
def wsJ6_bitCount_0f7a4 : List Cond := .code yJ6_bitCount_0f7a4 cJ6_bitCount_0f7a4 1 (some .int) :: ([.constant RJ6 265 (1431655765), .constant RJ6 266 (858993459), .constant RJ6 267 (252645135)])
def wsX6_misfits_r1 : List Cond := [Cond.fieldLink RX6 12 "TwoFacedTiles" "board" "LTwoFacedTiles$Board;", Cond.fieldLink RX6 33 "TwoFacedTiles" "needs" "LTwoFacedTiles$Needs;", Cond.methodLink RX6 66 yX0_cells, Cond.instanceMethod yX0_cells, Cond.selects RX0 yX0_cells yX0_cells, Cond.initialized RX0, Cond.code yX0_cells cX0_cells 1 (some .int), Cond.fieldLink RX0 9 "TwoFacedTiles$Board" "rows" "I", Cond.fieldLink RX0 15 "TwoFacedTiles$Board" "columns" "I", Cond.methodLink RX6 130 yX0_isEmpty, Cond.instanceMethod yX0_isEmpty, Cond.selects RX0 yX0_isEmpty yX0_isEmpty, Cond.code yX0_isEmpty cX0_isEmpty 2 (some .boolean), Cond.fieldLink RX0 27 "TwoFacedTiles$Board" "placings" "[I", Cond.methodLink RX6 275 yX3_read, Cond.instanceMethod yX3_read, Cond.selects RX3 yX3_read yX3_read, Cond.initialized RX3, Cond.code yX3_read cX3_read 6 none, Cond.fieldLink RX3 9 "TwoFacedTiles$Needs" "mustBeZero" "I", Cond.fieldLink RX3 15 "TwoFacedTiles$Needs" "mustAgree" "I", Cond.fieldLink RX3 18 "TwoFacedTiles$Needs" "wanted" "I", Cond.fieldLink RX3 21 "TwoFacedTiles$Needs" "forbiddenZero" "Z", Cond.fieldLink RX3 25 "TwoFacedTiles$Board" "rule" "I"]
def wsX6_misfits_r2 : List Cond := [Cond.methodLink RX3 30 yX3_ruledColors, Cond.static yX3_ruledColors, Cond.code yX3_ruledColors cX3_ruledColors 1 (some .int), Cond.constant RX3 55 (983055), Cond.methodLink RX3 34 yX0_neighbor, Cond.instanceMethod yX0_neighbor, Cond.selects RX0 yX0_neighbor yX0_neighbor, Cond.code yX0_neighbor cX0_neighbor 4 (some .int), Cond.methodLink RX0 43 yX0_cells, Cond.methodLink RX3 38 yX0_isEmpty, Cond.methodLink RX3 42 yX0_lookIn, Cond.instanceMethod yX0_lookIn, Cond.selects RX0 yX0_lookIn yX0_lookIn, Cond.code yX0_lookIn cX0_lookIn 2 (some .int), Cond.fieldLink RX0 34 "TwoFacedTiles$Board" "looks" "[I", Cond.static yX6_opposite, Cond.initialized RX6, Cond.code yX6_opposite cX6_opposite 1 (some .int), Cond.static yX6_colorsAt, Cond.code yX6_colorsAt cX6_colorsAt 2 (some .int), Cond.constant RX6 321 (983055), Cond.methodLink RX3 51 yX3_readNeighbor, Cond.instanceMethod yX3_readNeighbor, Cond.selects RX3 yX3_readNeighbor yX3_readNeighbor]
def wsX6_misfits_r3 : List Cond := [Cond.code yX3_readNeighbor cX3_readNeighbor 4 none, Cond.constant RX3 56 (983040), Cond.methodLink RX6 293 yX0_lookIn, Cond.methodLink RX6 281 yX3_reasonAgainst, Cond.instanceMethod yX3_reasonAgainst, Cond.selects RX3 yX3_reasonAgainst yX3_reasonAgainst, Cond.code yX3_reasonAgainst cX3_reasonAgainst 3 (some .int), Cond.constant RX3 57 (65535)]
def wsX6_misfits : List Cond := .code yX6_misfits cX6_misfits 3 (some .int) :: ((wsX6_misfits_r1 ++ (wsX6_misfits_r2 ++ wsX6_misfits_r3)) ++ wsX60 ++ wsX00 ++ wsX30)
def wsX6_number_r1 : List Cond := [Cond.fieldLink RX6 12 "TwoFacedTiles" "board" "LTwoFacedTiles$Board;", Cond.fieldLink RX6 98 "TwoFacedTiles$Board" "rows" "I", Cond.fieldLink RX6 101 "TwoFacedTiles$Board" "columns" "I", Cond.fieldLink RX6 72 "TwoFacedTiles$Board" "tiles" "I", Cond.fieldLink RX6 147 "TwoFacedTiles$Board" "fixed" "I", Cond.fieldLink RX6 92 "TwoFacedTiles$Board" "rule" "I", Cond.constant RX6 311 (983040), Cond.fieldLink RX6 19 "TwoFacedTiles" "history" "LTwoFacedTiles$History;", Cond.fieldLink RX6 199 "TwoFacedTiles$History" "kept" "I", Cond.methodLink RX6 123 yX0_emptyCells, Cond.instanceMethod yX0_emptyCells, Cond.selects RX0 yX0_emptyCells yX0_emptyCells, Cond.initialized RX0, Cond.code yX0_emptyCells cX0_emptyCells 3 (some .int), Cond.methodLink RX0 43 yX0_cells, Cond.instanceMethod yX0_cells, Cond.selects RX0 yX0_cells yX0_cells, Cond.code yX0_cells cX0_cells 1 (some .int), Cond.fieldLink RX0 9 "TwoFacedTiles$Board" "rows" "I", Cond.fieldLink RX0 15 "TwoFacedTiles$Board" "columns" "I", Cond.methodLink RX0 47 yX0_isEmpty, Cond.instanceMethod yX0_isEmpty, Cond.selects RX0 yX0_isEmpty yX0_isEmpty, Cond.code yX0_isEmpty cX0_isEmpty 2 (some .boolean)]
def wsX6_number_r2 : List Cond := [Cond.fieldLink RX0 27 "TwoFacedTiles$Board" "placings" "[I", Cond.methodLink RX6 239 yJ6_bitCount_0f7a4, Cond.static yJ6_bitCount_0f7a4, Cond.initialized RJ6, Cond.code yJ6_bitCount_0f7a4 cJ6_bitCount_0f7a4 1 (some .int), Cond.constant RJ6 265 (1431655765), Cond.constant RJ6 266 (858993459), Cond.constant RJ6 267 (252645135), Cond.methodLink RX6 308 yX0_pairsAlike, Cond.instanceMethod yX0_pairsAlike, Cond.selects RX0 yX0_pairsAlike yX0_pairsAlike, Cond.code yX0_pairsAlike cX0_pairsAlike 4 (some .int), Cond.methodLink RX0 94 yX0_isAlike, Cond.instanceMethod yX0_isAlike, Cond.selects RX0 yX0_isAlike yX0_isAlike, Cond.code yX0_isAlike cX0_isAlike 7 (some .boolean), Cond.methodLink RX0 80 yX0_neighbor, Cond.instanceMethod yX0_neighbor, Cond.selects RX0 yX0_neighbor yX0_neighbor, Cond.code yX0_neighbor cX0_neighbor 4 (some .int), Cond.methodLink RX0 98 yX0_lookIn, Cond.instanceMethod yX0_lookIn, Cond.selects RX0 yX0_lookIn yX0_lookIn, Cond.code yX0_lookIn cX0_lookIn 2 (some .int)]
def wsX6_number_r3 : List Cond := [Cond.fieldLink RX0 34 "TwoFacedTiles$Board" "looks" "[I", Cond.static yX6_colorsAt, Cond.initialized RX6, Cond.code yX6_colorsAt cX6_colorsAt 2 (some .int), Cond.constant RX6 321 (983055), Cond.static yX6_opposite, Cond.code yX6_opposite cX6_opposite 1 (some .int), Cond.methodLink RX6 312 yX6_misfits, Cond.instanceMethod yX6_misfits, Cond.selects RX6 yX6_misfits yX6_misfits, Cond.code yX6_misfits cX6_misfits 3 (some .int), Cond.fieldLink RX6 33 "TwoFacedTiles" "needs" "LTwoFacedTiles$Needs;", Cond.methodLink RX6 66 yX0_cells, Cond.methodLink RX6 130 yX0_isEmpty, Cond.methodLink RX6 275 yX3_read, Cond.instanceMethod yX3_read, Cond.selects RX3 yX3_read yX3_read, Cond.initialized RX3, Cond.code yX3_read cX3_read 6 none, Cond.fieldLink RX3 9 "TwoFacedTiles$Needs" "mustBeZero" "I", Cond.fieldLink RX3 15 "TwoFacedTiles$Needs" "mustAgree" "I", Cond.fieldLink RX3 18 "TwoFacedTiles$Needs" "wanted" "I", Cond.fieldLink RX3 21 "TwoFacedTiles$Needs" "forbiddenZero" "Z", Cond.fieldLink RX3 25 "TwoFacedTiles$Board" "rule" "I"]
def wsX6_number_r4 : List Cond := [Cond.methodLink RX3 30 yX3_ruledColors, Cond.static yX3_ruledColors, Cond.code yX3_ruledColors cX3_ruledColors 1 (some .int), Cond.constant RX3 55 (983055), Cond.methodLink RX3 34 yX0_neighbor, Cond.methodLink RX3 38 yX0_isEmpty, Cond.methodLink RX3 42 yX0_lookIn, Cond.methodLink RX3 51 yX3_readNeighbor, Cond.instanceMethod yX3_readNeighbor, Cond.selects RX3 yX3_readNeighbor yX3_readNeighbor, Cond.code yX3_readNeighbor cX3_readNeighbor 4 none, Cond.constant RX3 56 (983040), Cond.methodLink RX6 293 yX0_lookIn, Cond.methodLink RX6 281 yX3_reasonAgainst, Cond.instanceMethod yX3_reasonAgainst, Cond.selects RX3 yX3_reasonAgainst yX3_reasonAgainst, Cond.code yX3_reasonAgainst cX3_reasonAgainst 3 (some .int), Cond.constant RX3 57 (65535)]
def wsX6_number : List Cond := .code yX6_number cX6_number 2 (some .int) :: ((wsX6_number_r1 ++ (wsX6_number_r2 ++ (wsX6_number_r3 ++ wsX6_number_r4))) ++ wsX60 ++ wsX00 ++ wsX20 ++ wsX30)
def wsX6_count_r1 : List Cond := [Cond.classLink RX6 55 "java/lang/IllegalArgumentException", Cond.initialized "java/lang/IllegalArgumentException", Cond.methodLink RX6 228 yX6_number, Cond.instanceMethod yX6_number, Cond.selects RX6 yX6_number yX6_number, Cond.initialized RX6, Cond.code yX6_number cX6_number 2 (some .int), Cond.fieldLink RX6 12 "TwoFacedTiles" "board" "LTwoFacedTiles$Board;", Cond.fieldLink RX6 98 "TwoFacedTiles$Board" "rows" "I", Cond.fieldLink RX6 101 "TwoFacedTiles$Board" "columns" "I", Cond.fieldLink RX6 72 "TwoFacedTiles$Board" "tiles" "I", Cond.fieldLink RX6 147 "TwoFacedTiles$Board" "fixed" "I", Cond.fieldLink RX6 92 "TwoFacedTiles$Board" "rule" "I", Cond.constant RX6 311 (983040), Cond.fieldLink RX6 19 "TwoFacedTiles" "history" "LTwoFacedTiles$History;", Cond.fieldLink RX6 199 "TwoFacedTiles$History" "kept" "I", Cond.methodLink RX6 123 yX0_emptyCells, Cond.instanceMethod yX0_emptyCells, Cond.selects RX0 yX0_emptyCells yX0_emptyCells, Cond.initialized RX0, Cond.code yX0_emptyCells cX0_emptyCells 3 (some .int), Cond.methodLink RX0 43 yX0_cells, Cond.instanceMethod yX0_cells, Cond.selects RX0 yX0_cells yX0_cells]
def wsX6_count_r2 : List Cond := [Cond.code yX0_cells cX0_cells 1 (some .int), Cond.fieldLink RX0 9 "TwoFacedTiles$Board" "rows" "I", Cond.fieldLink RX0 15 "TwoFacedTiles$Board" "columns" "I", Cond.methodLink RX0 47 yX0_isEmpty, Cond.instanceMethod yX0_isEmpty, Cond.selects RX0 yX0_isEmpty yX0_isEmpty, Cond.code yX0_isEmpty cX0_isEmpty 2 (some .boolean), Cond.fieldLink RX0 27 "TwoFacedTiles$Board" "placings" "[I", Cond.methodLink RX6 239 yJ6_bitCount_0f7a4, Cond.static yJ6_bitCount_0f7a4, Cond.initialized RJ6, Cond.code yJ6_bitCount_0f7a4 cJ6_bitCount_0f7a4 1 (some .int), Cond.constant RJ6 265 (1431655765), Cond.constant RJ6 266 (858993459), Cond.constant RJ6 267 (252645135), Cond.methodLink RX6 308 yX0_pairsAlike, Cond.instanceMethod yX0_pairsAlike, Cond.selects RX0 yX0_pairsAlike yX0_pairsAlike, Cond.code yX0_pairsAlike cX0_pairsAlike 4 (some .int), Cond.methodLink RX0 94 yX0_isAlike, Cond.instanceMethod yX0_isAlike, Cond.selects RX0 yX0_isAlike yX0_isAlike, Cond.code yX0_isAlike cX0_isAlike 7 (some .boolean), Cond.methodLink RX0 80 yX0_neighbor]
def wsX6_count_r3 : List Cond := [Cond.instanceMethod yX0_neighbor, Cond.selects RX0 yX0_neighbor yX0_neighbor, Cond.code yX0_neighbor cX0_neighbor 4 (some .int), Cond.methodLink RX0 98 yX0_lookIn, Cond.instanceMethod yX0_lookIn, Cond.selects RX0 yX0_lookIn yX0_lookIn, Cond.code yX0_lookIn cX0_lookIn 2 (some .int), Cond.fieldLink RX0 34 "TwoFacedTiles$Board" "looks" "[I", Cond.static yX6_colorsAt, Cond.code yX6_colorsAt cX6_colorsAt 2 (some .int), Cond.constant RX6 321 (983055), Cond.static yX6_opposite, Cond.code yX6_opposite cX6_opposite 1 (some .int), Cond.methodLink RX6 312 yX6_misfits, Cond.instanceMethod yX6_misfits, Cond.selects RX6 yX6_misfits yX6_misfits, Cond.code yX6_misfits cX6_misfits 3 (some .int), Cond.fieldLink RX6 33 "TwoFacedTiles" "needs" "LTwoFacedTiles$Needs;", Cond.methodLink RX6 66 yX0_cells, Cond.methodLink RX6 130 yX0_isEmpty, Cond.methodLink RX6 275 yX3_read, Cond.instanceMethod yX3_read, Cond.selects RX3 yX3_read yX3_read, Cond.initialized RX3]
def wsX6_count_r4 : List Cond := [Cond.code yX3_read cX3_read 6 none, Cond.fieldLink RX3 9 "TwoFacedTiles$Needs" "mustBeZero" "I", Cond.fieldLink RX3 15 "TwoFacedTiles$Needs" "mustAgree" "I", Cond.fieldLink RX3 18 "TwoFacedTiles$Needs" "wanted" "I", Cond.fieldLink RX3 21 "TwoFacedTiles$Needs" "forbiddenZero" "Z", Cond.fieldLink RX3 25 "TwoFacedTiles$Board" "rule" "I", Cond.methodLink RX3 30 yX3_ruledColors, Cond.static yX3_ruledColors, Cond.code yX3_ruledColors cX3_ruledColors 1 (some .int), Cond.constant RX3 55 (983055), Cond.methodLink RX3 34 yX0_neighbor, Cond.methodLink RX3 38 yX0_isEmpty, Cond.methodLink RX3 42 yX0_lookIn, Cond.methodLink RX3 51 yX3_readNeighbor, Cond.instanceMethod yX3_readNeighbor, Cond.selects RX3 yX3_readNeighbor yX3_readNeighbor, Cond.code yX3_readNeighbor cX3_readNeighbor 4 none, Cond.constant RX3 56 (983040), Cond.methodLink RX6 293 yX0_lookIn, Cond.methodLink RX6 281 yX3_reasonAgainst, Cond.instanceMethod yX3_reasonAgainst, Cond.selects RX3 yX3_reasonAgainst yX3_reasonAgainst, Cond.code yX3_reasonAgainst cX3_reasonAgainst 3 (some .int), Cond.constant RX3 57 (65535)]
def wsX6_count : List Cond := .code yX6_count cX6_count 2 (some .int) :: ((wsX6_count_r1 ++ (wsX6_count_r2 ++ (wsX6_count_r3 ++ wsX6_count_r4))) ++ wsX60 ++ wsX00 ++ wsX20 ++ wsX30 ++ (vx_atS RX6 59 "java/lang/IllegalArgumentException" ["java/lang/RuntimeException", "java/lang/Exception"]).filter goodWord)
def wsX6_layings_r1 : List Cond := [Cond.classLink RX6 55 "java/lang/IllegalArgumentException", Cond.initialized "java/lang/IllegalArgumentException", Cond.fieldLink RX6 40 "TwoFacedTiles" "search" "LTwoFacedTiles$Search;", Cond.fieldLink RX6 12 "TwoFacedTiles" "board" "LTwoFacedTiles$Board;", Cond.methodLink RX6 157 yX4_run, Cond.instanceMethod yX4_run, Cond.selects RX4 yX4_run yX4_run, Cond.initialized RX4, Cond.code yX4_run cX4_run 3 none, Cond.fieldLink RX4 12 "TwoFacedTiles$Search" "trial" "LTwoFacedTiles$Board;", Cond.methodLink RX4 42 yX0_copyFrom, Cond.instanceMethod yX0_copyFrom, Cond.selects RX0 yX0_copyFrom yX0_copyFrom, Cond.initialized RX0, Cond.code yX0_copyFrom cX0_copyFrom 2 none, Cond.fieldLink RX0 9 "TwoFacedTiles$Board" "rows" "I", Cond.fieldLink RX0 15 "TwoFacedTiles$Board" "columns" "I", Cond.fieldLink RX0 18 "TwoFacedTiles$Board" "rule" "I", Cond.fieldLink RX0 21 "TwoFacedTiles$Board" "tiles" "I", Cond.fieldLink RX0 24 "TwoFacedTiles$Board" "fixed" "I", Cond.fieldLink RX0 27 "TwoFacedTiles$Board" "placings" "[I", Cond.methodLink RX0 37 arraycopyName, Cond.native arraycopyName, Cond.static arraycopyName]
def wsX6_layings_r2 : List Cond := [Cond.initialized "java/lang/System", Cond.fieldLink RX0 31 "TwoFacedTiles$Board" "places" "[I", Cond.fieldLink RX0 34 "TwoFacedTiles$Board" "looks" "[I", Cond.methodLink RX4 46 yX4_runTrial, Cond.instanceMethod yX4_runTrial, Cond.selects RX4 yX4_runTrial yX4_runTrial, Cond.code yX4_runTrial cX4_runTrial 2 none, Cond.fieldLink RX4 28 "TwoFacedTiles$Search" "most" "I", Cond.fieldLink RX4 18 "TwoFacedTiles$Search" "found" "I", Cond.fieldLink RX4 31 "TwoFacedTiles$Search" "steps" "I", Cond.fieldLink RX4 34 "TwoFacedTiles$Search" "tooManySteps" "Z", Cond.fieldLink RX4 38 "TwoFacedTiles$Search" "over" "Z", Cond.methodLink RX4 54 yX4_fillFrom, Cond.instanceMethod yX4_fillFrom, Cond.selects RX4 yX4_fillFrom yX4_fillFrom, Cond.code yX4_fillFrom cX4_fillFrom 7 none, Cond.fieldLink RX4 24 "TwoFacedTiles$Search" "needs" "[LTwoFacedTiles$Needs;", Cond.fieldLink RX4 69 "TwoFacedTiles$Board" "tiles" "I", Cond.fieldLink RX4 75 "TwoFacedTiles$Board" "looks" "[I", Cond.methodLink RX4 57 yX0_cells, Cond.instanceMethod yX0_cells, Cond.selects RX0 yX0_cells yX0_cells, Cond.code yX0_cells cX0_cells 1 (some .int), Cond.methodLink RX4 61 yX0_isEmpty]
def wsX6_layings_r3 : List Cond := [Cond.instanceMethod yX0_isEmpty, Cond.selects RX0 yX0_isEmpty yX0_isEmpty, Cond.code yX0_isEmpty cX0_isEmpty 2 (some .boolean), Cond.methodLink RX4 65 yX3_read, Cond.instanceMethod yX3_read, Cond.selects RX3 yX3_read yX3_read, Cond.initialized RX3, Cond.code yX3_read cX3_read 6 none, Cond.fieldLink RX3 9 "TwoFacedTiles$Needs" "mustBeZero" "I", Cond.fieldLink RX3 15 "TwoFacedTiles$Needs" "mustAgree" "I", Cond.fieldLink RX3 18 "TwoFacedTiles$Needs" "wanted" "I", Cond.fieldLink RX3 21 "TwoFacedTiles$Needs" "forbiddenZero" "Z", Cond.fieldLink RX3 25 "TwoFacedTiles$Board" "rule" "I", Cond.methodLink RX3 30 yX3_ruledColors, Cond.static yX3_ruledColors, Cond.code yX3_ruledColors cX3_ruledColors 1 (some .int), Cond.constant RX3 55 (983055), Cond.methodLink RX3 34 yX0_neighbor, Cond.instanceMethod yX0_neighbor, Cond.selects RX0 yX0_neighbor yX0_neighbor, Cond.code yX0_neighbor cX0_neighbor 4 (some .int), Cond.methodLink RX0 43 yX0_cells, Cond.methodLink RX3 38 yX0_isEmpty, Cond.methodLink RX3 42 yX0_lookIn]
def wsX6_layings_r4 : List Cond := [Cond.instanceMethod yX0_lookIn, Cond.selects RX0 yX0_lookIn yX0_lookIn, Cond.code yX0_lookIn cX0_lookIn 2 (some .int), Cond.static yX6_opposite, Cond.initialized RX6, Cond.code yX6_opposite cX6_opposite 1 (some .int), Cond.static yX6_colorsAt, Cond.code yX6_colorsAt cX6_colorsAt 2 (some .int), Cond.constant RX6 321 (983055), Cond.methodLink RX3 51 yX3_readNeighbor, Cond.instanceMethod yX3_readNeighbor, Cond.selects RX3 yX3_readNeighbor yX3_readNeighbor, Cond.code yX3_readNeighbor cX3_readNeighbor 4 none, Cond.constant RX3 56 (983040), Cond.methodLink RX4 72 yX0_isLaid, Cond.instanceMethod yX0_isLaid, Cond.selects RX0 yX0_isLaid yX0_isLaid, Cond.code yX0_isLaid cX0_isLaid 2 (some .boolean), Cond.methodLink RX4 79 yX3_reasonAgainst, Cond.instanceMethod yX3_reasonAgainst, Cond.selects RX3 yX3_reasonAgainst yX3_reasonAgainst, Cond.code yX3_reasonAgainst cX3_reasonAgainst 3 (some .int), Cond.constant RX3 57 (65535), Cond.methodLink RX4 82 yX4_tryPlacing]
def wsX6_layings_r5 : List Cond := [Cond.instanceMethod yX4_tryPlacing, Cond.selects RX4 yX4_tryPlacing yX4_tryPlacing, Cond.code yX4_tryPlacing cX4_tryPlacing 3 none, Cond.methodLink RX4 86 yX0_put, Cond.instanceMethod yX0_put, Cond.selects RX0 yX0_put yX0_put, Cond.code yX0_put cX0_put 3 none, Cond.methodLink RX4 89 yX0_remove, Cond.instanceMethod yX0_remove, Cond.selects RX0 yX0_remove yX0_remove, Cond.code yX0_remove cX0_remove 2 none, Cond.methodLink RX6 233 yX4_result, Cond.instanceMethod yX4_result, Cond.selects RX4 yX4_result yX4_result, Cond.code yX4_result cX4_result 2 (some .int)]
def wsX6_layings : List Cond := .code yX6_layings cX6_layings 3 (some .int) :: ((wsX6_layings_r1 ++ (wsX6_layings_r2 ++ (wsX6_layings_r3 ++ (wsX6_layings_r4 ++ wsX6_layings_r5)))) ++ wsX60 ++ wsX40 ++ wsX00 ++ wsX30 ++ (vx_atS RX6 59 "java/lang/IllegalArgumentException" ["java/lang/RuntimeException", "java/lang/Exception"]).filter goodWord)
def wsX6_bestStep_r1 : List Cond := [Cond.fieldLink RX6 12 "TwoFacedTiles" "board" "LTwoFacedTiles$Board;", Cond.methodLink RX6 66 yX0_cells, Cond.instanceMethod yX0_cells, Cond.selects RX0 yX0_cells yX0_cells, Cond.initialized RX0, Cond.code yX0_cells cX0_cells 1 (some .int), Cond.fieldLink RX0 9 "TwoFacedTiles$Board" "rows" "I", Cond.fieldLink RX0 15 "TwoFacedTiles$Board" "columns" "I", Cond.methodLink RX6 284 yX6_possibleCount, Cond.instanceMethod yX6_possibleCount, Cond.selects RX6 yX6_possibleCount yX6_possibleCount, Cond.initialized RX6, Cond.code yX6_possibleCount cX6_possibleCount 4 (some .int), Cond.fieldLink RX6 33 "TwoFacedTiles" "needs" "LTwoFacedTiles$Needs;", Cond.fieldLink RX6 72 "TwoFacedTiles$Board" "tiles" "I", Cond.methodLink RX6 130 yX0_isEmpty, Cond.instanceMethod yX0_isEmpty, Cond.selects RX0 yX0_isEmpty yX0_isEmpty, Cond.code yX0_isEmpty cX0_isEmpty 2 (some .boolean), Cond.fieldLink RX0 27 "TwoFacedTiles$Board" "placings" "[I", Cond.methodLink RX6 275 yX3_read, Cond.instanceMethod yX3_read, Cond.selects RX3 yX3_read yX3_read, Cond.initialized RX3]
def wsX6_bestStep_r2 : List Cond := [Cond.code yX3_read cX3_read 6 none, Cond.fieldLink RX3 9 "TwoFacedTiles$Needs" "mustBeZero" "I", Cond.fieldLink RX3 15 "TwoFacedTiles$Needs" "mustAgree" "I", Cond.fieldLink RX3 18 "TwoFacedTiles$Needs" "wanted" "I", Cond.fieldLink RX3 21 "TwoFacedTiles$Needs" "forbiddenZero" "Z", Cond.fieldLink RX3 25 "TwoFacedTiles$Board" "rule" "I", Cond.methodLink RX3 30 yX3_ruledColors, Cond.static yX3_ruledColors, Cond.code yX3_ruledColors cX3_ruledColors 1 (some .int), Cond.constant RX3 55 (983055), Cond.methodLink RX3 34 yX0_neighbor, Cond.instanceMethod yX0_neighbor, Cond.selects RX0 yX0_neighbor yX0_neighbor, Cond.code yX0_neighbor cX0_neighbor 4 (some .int), Cond.methodLink RX0 43 yX0_cells, Cond.methodLink RX3 38 yX0_isEmpty, Cond.methodLink RX3 42 yX0_lookIn, Cond.instanceMethod yX0_lookIn, Cond.selects RX0 yX0_lookIn yX0_lookIn, Cond.code yX0_lookIn cX0_lookIn 2 (some .int), Cond.fieldLink RX0 34 "TwoFacedTiles$Board" "looks" "[I", Cond.static yX6_opposite, Cond.code yX6_opposite cX6_opposite 1 (some .int), Cond.static yX6_colorsAt]
def wsX6_bestStep_r3 : List Cond := [Cond.code yX6_colorsAt cX6_colorsAt 2 (some .int), Cond.constant RX6 321 (983055), Cond.methodLink RX3 51 yX3_readNeighbor, Cond.instanceMethod yX3_readNeighbor, Cond.selects RX3 yX3_readNeighbor yX3_readNeighbor, Cond.code yX3_readNeighbor cX3_readNeighbor 4 none, Cond.constant RX3 56 (983040), Cond.methodLink RX6 290 yX6_meetsNeeds, Cond.instanceMethod yX6_meetsNeeds, Cond.selects RX6 yX6_meetsNeeds yX6_meetsNeeds, Cond.code yX6_meetsNeeds cX6_meetsNeeds 2 (some .boolean), Cond.fieldLink RX6 278 "TwoFacedTiles$Board" "looks" "[I", Cond.methodLink RX6 84 yX0_isLaid, Cond.instanceMethod yX0_isLaid, Cond.selects RX0 yX0_isLaid yX0_isLaid, Cond.code yX0_isLaid cX0_isLaid 2 (some .boolean), Cond.fieldLink RX0 31 "TwoFacedTiles$Board" "places" "[I", Cond.methodLink RX6 281 yX3_reasonAgainst, Cond.instanceMethod yX3_reasonAgainst, Cond.selects RX3 yX3_reasonAgainst yX3_reasonAgainst, Cond.code yX3_reasonAgainst cX3_reasonAgainst 3 (some .int), Cond.constant RX3 57 (65535), Cond.methodLink RX6 287 yX6_firstPossible, Cond.instanceMethod yX6_firstPossible]
def wsX6_bestStep_r4 : List Cond := [Cond.selects RX6 yX6_firstPossible yX6_firstPossible, Cond.code yX6_firstPossible cX6_firstPossible 3 (some .int)]
def wsX6_bestStep : List Cond := .code yX6_bestStep cX6_bestStep 5 (some .int) :: ((wsX6_bestStep_r1 ++ (wsX6_bestStep_r2 ++ (wsX6_bestStep_r3 ++ wsX6_bestStep_r4))) ++ wsX60 ++ wsX00 ++ wsX30)
def wsX6_hint_r1 : List Cond := [Cond.methodLink RX6 236 yX6_bestStep, Cond.instanceMethod yX6_bestStep, Cond.selects RX6 yX6_bestStep yX6_bestStep, Cond.initialized RX6, Cond.code yX6_bestStep cX6_bestStep 5 (some .int), Cond.fieldLink RX6 12 "TwoFacedTiles" "board" "LTwoFacedTiles$Board;", Cond.methodLink RX6 66 yX0_cells, Cond.instanceMethod yX0_cells, Cond.selects RX0 yX0_cells yX0_cells, Cond.initialized RX0, Cond.code yX0_cells cX0_cells 1 (some .int), Cond.fieldLink RX0 9 "TwoFacedTiles$Board" "rows" "I", Cond.fieldLink RX0 15 "TwoFacedTiles$Board" "columns" "I", Cond.methodLink RX6 284 yX6_possibleCount, Cond.instanceMethod yX6_possibleCount, Cond.selects RX6 yX6_possibleCount yX6_possibleCount, Cond.code yX6_possibleCount cX6_possibleCount 4 (some .int), Cond.fieldLink RX6 33 "TwoFacedTiles" "needs" "LTwoFacedTiles$Needs;", Cond.fieldLink RX6 72 "TwoFacedTiles$Board" "tiles" "I", Cond.methodLink RX6 130 yX0_isEmpty, Cond.instanceMethod yX0_isEmpty, Cond.selects RX0 yX0_isEmpty yX0_isEmpty, Cond.code yX0_isEmpty cX0_isEmpty 2 (some .boolean), Cond.fieldLink RX0 27 "TwoFacedTiles$Board" "placings" "[I"]
def wsX6_hint_r2 : List Cond := [Cond.methodLink RX6 275 yX3_read, Cond.instanceMethod yX3_read, Cond.selects RX3 yX3_read yX3_read, Cond.initialized RX3, Cond.code yX3_read cX3_read 6 none, Cond.fieldLink RX3 9 "TwoFacedTiles$Needs" "mustBeZero" "I", Cond.fieldLink RX3 15 "TwoFacedTiles$Needs" "mustAgree" "I", Cond.fieldLink RX3 18 "TwoFacedTiles$Needs" "wanted" "I", Cond.fieldLink RX3 21 "TwoFacedTiles$Needs" "forbiddenZero" "Z", Cond.fieldLink RX3 25 "TwoFacedTiles$Board" "rule" "I", Cond.methodLink RX3 30 yX3_ruledColors, Cond.static yX3_ruledColors, Cond.code yX3_ruledColors cX3_ruledColors 1 (some .int), Cond.constant RX3 55 (983055), Cond.methodLink RX3 34 yX0_neighbor, Cond.instanceMethod yX0_neighbor, Cond.selects RX0 yX0_neighbor yX0_neighbor, Cond.code yX0_neighbor cX0_neighbor 4 (some .int), Cond.methodLink RX0 43 yX0_cells, Cond.methodLink RX3 38 yX0_isEmpty, Cond.methodLink RX3 42 yX0_lookIn, Cond.instanceMethod yX0_lookIn, Cond.selects RX0 yX0_lookIn yX0_lookIn, Cond.code yX0_lookIn cX0_lookIn 2 (some .int)]
def wsX6_hint_r3 : List Cond := [Cond.fieldLink RX0 34 "TwoFacedTiles$Board" "looks" "[I", Cond.static yX6_opposite, Cond.code yX6_opposite cX6_opposite 1 (some .int), Cond.static yX6_colorsAt, Cond.code yX6_colorsAt cX6_colorsAt 2 (some .int), Cond.constant RX6 321 (983055), Cond.methodLink RX3 51 yX3_readNeighbor, Cond.instanceMethod yX3_readNeighbor, Cond.selects RX3 yX3_readNeighbor yX3_readNeighbor, Cond.code yX3_readNeighbor cX3_readNeighbor 4 none, Cond.constant RX3 56 (983040), Cond.methodLink RX6 290 yX6_meetsNeeds, Cond.instanceMethod yX6_meetsNeeds, Cond.selects RX6 yX6_meetsNeeds yX6_meetsNeeds, Cond.code yX6_meetsNeeds cX6_meetsNeeds 2 (some .boolean), Cond.fieldLink RX6 278 "TwoFacedTiles$Board" "looks" "[I", Cond.methodLink RX6 84 yX0_isLaid, Cond.instanceMethod yX0_isLaid, Cond.selects RX0 yX0_isLaid yX0_isLaid, Cond.code yX0_isLaid cX0_isLaid 2 (some .boolean), Cond.fieldLink RX0 31 "TwoFacedTiles$Board" "places" "[I", Cond.methodLink RX6 281 yX3_reasonAgainst, Cond.instanceMethod yX3_reasonAgainst, Cond.selects RX3 yX3_reasonAgainst yX3_reasonAgainst]
def wsX6_hint_r4 : List Cond := [Cond.code yX3_reasonAgainst cX3_reasonAgainst 3 (some .int), Cond.constant RX3 57 (65535), Cond.methodLink RX6 287 yX6_firstPossible, Cond.instanceMethod yX6_firstPossible, Cond.selects RX6 yX6_firstPossible yX6_firstPossible, Cond.code yX6_firstPossible cX6_firstPossible 3 (some .int)]
def wsX6_hint : List Cond := .code yX6_hint cX6_hint 1 (some .int) :: ((wsX6_hint_r1 ++ (wsX6_hint_r2 ++ (wsX6_hint_r3 ++ wsX6_hint_r4))) ++ wsX60 ++ wsX00 ++ wsX30)
def wsX6_why_r1 : List Cond := [Cond.methodLink RX6 111 yX6_requirePlacing, Cond.instanceMethod yX6_requirePlacing, Cond.selects RX6 yX6_requirePlacing yX6_requirePlacing, Cond.initialized RX6, Cond.code yX6_requirePlacing cX6_requirePlacing 3 none, Cond.classLink RX6 212 "java/lang/IndexOutOfBoundsException", Cond.initialized "java/lang/IndexOutOfBoundsException", Cond.fieldLink RX6 12 "TwoFacedTiles" "board" "LTwoFacedTiles$Board;", Cond.methodLink RX6 126 yX6_requireCell, Cond.instanceMethod yX6_requireCell, Cond.selects RX6 yX6_requireCell yX6_requireCell, Cond.code yX6_requireCell cX6_requireCell 2 none, Cond.methodLink RX6 267 yX0_hasCell, Cond.instanceMethod yX0_hasCell, Cond.selects RX0 yX0_hasCell yX0_hasCell, Cond.initialized RX0, Cond.code yX0_hasCell cX0_hasCell 2 (some .boolean), Cond.methodLink RX0 43 yX0_cells, Cond.instanceMethod yX0_cells, Cond.selects RX0 yX0_cells yX0_cells, Cond.code yX0_cells cX0_cells 1 (some .int), Cond.fieldLink RX0 9 "TwoFacedTiles$Board" "rows" "I", Cond.fieldLink RX0 15 "TwoFacedTiles$Board" "columns" "I", Cond.methodLink RX6 272 yX0_hasPlacing]
def wsX6_why_r2 : List Cond := [Cond.instanceMethod yX0_hasPlacing, Cond.selects RX0 yX0_hasPlacing yX0_hasPlacing, Cond.code yX0_hasPlacing cX0_hasPlacing 2 (some .boolean), Cond.fieldLink RX0 21 "TwoFacedTiles$Board" "tiles" "I", Cond.methodLink RX6 114 yX6_reason, Cond.instanceMethod yX6_reason, Cond.selects RX6 yX6_reason yX6_reason, Cond.code yX6_reason cX6_reason 3 (some .int), Cond.fieldLink RX6 33 "TwoFacedTiles" "needs" "LTwoFacedTiles$Needs;", Cond.fieldLink RX6 278 "TwoFacedTiles$Board" "looks" "[I", Cond.methodLink RX6 130 yX0_isEmpty, Cond.instanceMethod yX0_isEmpty, Cond.selects RX0 yX0_isEmpty yX0_isEmpty, Cond.code yX0_isEmpty cX0_isEmpty 2 (some .boolean), Cond.fieldLink RX0 27 "TwoFacedTiles$Board" "placings" "[I", Cond.methodLink RX6 84 yX0_isLaid, Cond.instanceMethod yX0_isLaid, Cond.selects RX0 yX0_isLaid yX0_isLaid, Cond.code yX0_isLaid cX0_isLaid 2 (some .boolean), Cond.fieldLink RX0 31 "TwoFacedTiles$Board" "places" "[I", Cond.methodLink RX6 275 yX3_read, Cond.instanceMethod yX3_read, Cond.selects RX3 yX3_read yX3_read, Cond.initialized RX3]
def wsX6_why_r3 : List Cond := [Cond.code yX3_read cX3_read 6 none, Cond.fieldLink RX3 9 "TwoFacedTiles$Needs" "mustBeZero" "I", Cond.fieldLink RX3 15 "TwoFacedTiles$Needs" "mustAgree" "I", Cond.fieldLink RX3 18 "TwoFacedTiles$Needs" "wanted" "I", Cond.fieldLink RX3 21 "TwoFacedTiles$Needs" "forbiddenZero" "Z", Cond.fieldLink RX3 25 "TwoFacedTiles$Board" "rule" "I", Cond.methodLink RX3 30 yX3_ruledColors, Cond.static yX3_ruledColors, Cond.code yX3_ruledColors cX3_ruledColors 1 (some .int), Cond.constant RX3 55 (983055), Cond.methodLink RX3 34 yX0_neighbor, Cond.instanceMethod yX0_neighbor, Cond.selects RX0 yX0_neighbor yX0_neighbor, Cond.code yX0_neighbor cX0_neighbor 4 (some .int), Cond.methodLink RX3 38 yX0_isEmpty, Cond.methodLink RX3 42 yX0_lookIn, Cond.instanceMethod yX0_lookIn, Cond.selects RX0 yX0_lookIn yX0_lookIn, Cond.code yX0_lookIn cX0_lookIn 2 (some .int), Cond.fieldLink RX0 34 "TwoFacedTiles$Board" "looks" "[I", Cond.static yX6_opposite, Cond.code yX6_opposite cX6_opposite 1 (some .int), Cond.static yX6_colorsAt, Cond.code yX6_colorsAt cX6_colorsAt 2 (some .int)]
def wsX6_why_r4 : List Cond := [Cond.constant RX6 321 (983055), Cond.methodLink RX3 51 yX3_readNeighbor, Cond.instanceMethod yX3_readNeighbor, Cond.selects RX3 yX3_readNeighbor yX3_readNeighbor, Cond.code yX3_readNeighbor cX3_readNeighbor 4 none, Cond.constant RX3 56 (983040), Cond.methodLink RX6 281 yX3_reasonAgainst, Cond.instanceMethod yX3_reasonAgainst, Cond.selects RX3 yX3_reasonAgainst yX3_reasonAgainst, Cond.code yX3_reasonAgainst cX3_reasonAgainst 3 (some .int), Cond.constant RX3 57 (65535)]
def wsX6_why : List Cond := .code yX6_why cX6_why 3 (some .int) :: ((wsX6_why_r1 ++ (wsX6_why_r2 ++ (wsX6_why_r3 ++ wsX6_why_r4))) ++ wsX60 ++ wsX00 ++ wsX30 ++ (vx_atS RX6 216 "java/lang/IndexOutOfBoundsException" ["java/lang/RuntimeException", "java/lang/Exception"]).filter goodWord)
def wsX6_fittingPart_r1 : List Cond := [Cond.fieldLink RX6 12 "TwoFacedTiles" "board" "LTwoFacedTiles$Board;", Cond.constant RX6 311 (983040), Cond.methodLink RX6 308 yX0_pairsAlike, Cond.instanceMethod yX0_pairsAlike, Cond.selects RX0 yX0_pairsAlike yX0_pairsAlike, Cond.initialized RX0, Cond.code yX0_pairsAlike cX0_pairsAlike 4 (some .int), Cond.methodLink RX0 43 yX0_cells, Cond.instanceMethod yX0_cells, Cond.selects RX0 yX0_cells yX0_cells, Cond.code yX0_cells cX0_cells 1 (some .int), Cond.fieldLink RX0 9 "TwoFacedTiles$Board" "rows" "I", Cond.fieldLink RX0 15 "TwoFacedTiles$Board" "columns" "I", Cond.methodLink RX0 94 yX0_isAlike, Cond.instanceMethod yX0_isAlike, Cond.selects RX0 yX0_isAlike yX0_isAlike, Cond.code yX0_isAlike cX0_isAlike 7 (some .boolean), Cond.methodLink RX0 80 yX0_neighbor, Cond.instanceMethod yX0_neighbor, Cond.selects RX0 yX0_neighbor yX0_neighbor, Cond.code yX0_neighbor cX0_neighbor 4 (some .int), Cond.methodLink RX0 47 yX0_isEmpty, Cond.instanceMethod yX0_isEmpty, Cond.selects RX0 yX0_isEmpty yX0_isEmpty]
def wsX6_fittingPart_r2 : List Cond := [Cond.code yX0_isEmpty cX0_isEmpty 2 (some .boolean), Cond.fieldLink RX0 27 "TwoFacedTiles$Board" "placings" "[I", Cond.methodLink RX0 98 yX0_lookIn, Cond.instanceMethod yX0_lookIn, Cond.selects RX0 yX0_lookIn yX0_lookIn, Cond.code yX0_lookIn cX0_lookIn 2 (some .int), Cond.fieldLink RX0 34 "TwoFacedTiles$Board" "looks" "[I", Cond.static yX6_colorsAt, Cond.initialized RX6, Cond.code yX6_colorsAt cX6_colorsAt 2 (some .int), Cond.constant RX6 321 (983055), Cond.static yX6_opposite, Cond.code yX6_opposite cX6_opposite 1 (some .int)]
def wsX6_fittingPart : List Cond := .code yX6_fittingPart cX6_fittingPart 3 (some .double) :: ((wsX6_fittingPart_r1 ++ wsX6_fittingPart_r2) ++ wsX60 ++ wsX00)
def wsX6_fitting_r1 : List Cond := [Cond.methodLink RX6 248 yX6_fittingPart, Cond.instanceMethod yX6_fittingPart, Cond.selects RX6 yX6_fittingPart yX6_fittingPart, Cond.initialized RX6, Cond.code yX6_fittingPart cX6_fittingPart 3 (some .double), Cond.fieldLink RX6 12 "TwoFacedTiles" "board" "LTwoFacedTiles$Board;", Cond.constant RX6 311 (983040), Cond.methodLink RX6 308 yX0_pairsAlike, Cond.instanceMethod yX0_pairsAlike, Cond.selects RX0 yX0_pairsAlike yX0_pairsAlike, Cond.initialized RX0, Cond.code yX0_pairsAlike cX0_pairsAlike 4 (some .int), Cond.methodLink RX0 43 yX0_cells, Cond.instanceMethod yX0_cells, Cond.selects RX0 yX0_cells yX0_cells, Cond.code yX0_cells cX0_cells 1 (some .int), Cond.fieldLink RX0 9 "TwoFacedTiles$Board" "rows" "I", Cond.fieldLink RX0 15 "TwoFacedTiles$Board" "columns" "I", Cond.methodLink RX0 94 yX0_isAlike, Cond.instanceMethod yX0_isAlike, Cond.selects RX0 yX0_isAlike yX0_isAlike, Cond.code yX0_isAlike cX0_isAlike 7 (some .boolean), Cond.methodLink RX0 80 yX0_neighbor, Cond.instanceMethod yX0_neighbor]
def wsX6_fitting_r2 : List Cond := [Cond.selects RX0 yX0_neighbor yX0_neighbor, Cond.code yX0_neighbor cX0_neighbor 4 (some .int), Cond.methodLink RX0 47 yX0_isEmpty, Cond.instanceMethod yX0_isEmpty, Cond.selects RX0 yX0_isEmpty yX0_isEmpty, Cond.code yX0_isEmpty cX0_isEmpty 2 (some .boolean), Cond.fieldLink RX0 27 "TwoFacedTiles$Board" "placings" "[I", Cond.methodLink RX0 98 yX0_lookIn, Cond.instanceMethod yX0_lookIn, Cond.selects RX0 yX0_lookIn yX0_lookIn, Cond.code yX0_lookIn cX0_lookIn 2 (some .int), Cond.fieldLink RX0 34 "TwoFacedTiles$Board" "looks" "[I", Cond.static yX6_colorsAt, Cond.code yX6_colorsAt cX6_colorsAt 2 (some .int), Cond.constant RX6 321 (983055), Cond.static yX6_opposite, Cond.code yX6_opposite cX6_opposite 1 (some .int)]
def wsX6_fitting : List Cond := .code yX6_fitting cX6_fitting 1 (some .double) :: ((wsX6_fitting_r1 ++ wsX6_fitting_r2) ++ wsX60 ++ wsX00)
def wsL_cell : List Cond := .code yL_cell cL_cell 2 (some .int) :: ([.constant RL 7 (1540483477)])
def wsL_at : List Cond := .code yL_at cL_at 2 (some .int) :: ([])
def wsL_color : List Cond := .code yL_color cL_color 7 (some .int) :: ([])
def wsL_beyond : List Cond := .code yL_beyond cL_beyond 5 (some .int) :: ([])
def wsL_fits : List Cond := .code yL_fits cL_fits 11 (some .int) :: ([.methodLink RL 8 yL_color, .static yL_color, .initialized RL, .code yL_color cL_color 7 (some .int), .methodLink RL 14 yL_beyond, .static yL_beyond, .code yL_beyond cL_beyond 5 (some .int)])
def wsL_where : List Cond := .code yL_where cL_where 3 (some .int) :: ([])
def wsL_why : List Cond := .code yL_why cL_why 4 (some .int) :: ([.methodLink RL 18 yL_where, .static yL_where, .initialized RL, .code yL_where cL_where 3 (some .int), .methodLink RL 22 yL_fits, .static yL_fits, .code yL_fits cL_fits 11 (some .int), .methodLink RL 8 yL_color, .static yL_color, .code yL_color cL_color 7 (some .int), .methodLink RL 14 yL_beyond, .static yL_beyond, .code yL_beyond cL_beyond 5 (some .int)])
def wsL_search : List Cond := .code yL_search cL_search 10 none :: ([.arrayClass .int, .methodLink RL 26 yL_why, .static yL_why, .initialized RL, .code yL_why cL_why 4 (some .int), .methodLink RL 18 yL_where, .static yL_where, .code yL_where cL_where 3 (some .int), .methodLink RL 22 yL_fits, .static yL_fits, .code yL_fits cL_fits 11 (some .int), .methodLink RL 8 yL_color, .static yL_color, .code yL_color cL_color 7 (some .int), .methodLink RL 14 yL_beyond, .static yL_beyond, .code yL_beyond cL_beyond 5 (some .int)])
def wsL_told_r1 : List Cond := [Cond.arrayClass .int, Cond.methodLink RL 26 yL_why, Cond.static yL_why, Cond.initialized RL, Cond.code yL_why cL_why 4 (some .int), Cond.methodLink RL 18 yL_where, Cond.static yL_where, Cond.code yL_where cL_where 3 (some .int), Cond.methodLink RL 22 yL_fits, Cond.static yL_fits, Cond.code yL_fits cL_fits 11 (some .int), Cond.methodLink RL 8 yL_color, Cond.static yL_color, Cond.code yL_color cL_color 7 (some .int), Cond.methodLink RL 14 yL_beyond, Cond.static yL_beyond, Cond.code yL_beyond cL_beyond 5 (some .int), Cond.methodLink RL 29 yX6_cell, Cond.instanceMethod yX6_cell, Cond.selects RX6 yX6_cell yX6_cell, Cond.initialized RX6, Cond.code yX6_cell cX6_cell 3 (some .int), Cond.classLink RX6 55 "java/lang/IllegalArgumentException", Cond.initialized "java/lang/IllegalArgumentException"]
def wsL_told_r2 : List Cond := [Cond.methodLink RX6 126 yX6_requireCell, Cond.instanceMethod yX6_requireCell, Cond.selects RX6 yX6_requireCell yX6_requireCell, Cond.code yX6_requireCell cX6_requireCell 2 none, Cond.classLink RX6 212 "java/lang/IndexOutOfBoundsException", Cond.initialized "java/lang/IndexOutOfBoundsException", Cond.fieldLink RX6 12 "TwoFacedTiles" "board" "LTwoFacedTiles$Board;", Cond.methodLink RX6 267 yX0_hasCell, Cond.instanceMethod yX0_hasCell, Cond.selects RX0 yX0_hasCell yX0_hasCell, Cond.initialized RX0, Cond.code yX0_hasCell cX0_hasCell 2 (some .boolean), Cond.methodLink RX0 43 yX0_cells, Cond.instanceMethod yX0_cells, Cond.selects RX0 yX0_cells yX0_cells, Cond.code yX0_cells cX0_cells 1 (some .int), Cond.fieldLink RX0 9 "TwoFacedTiles$Board" "rows" "I", Cond.fieldLink RX0 15 "TwoFacedTiles$Board" "columns" "I", Cond.methodLink RX6 209 yX6_cellProperty, Cond.instanceMethod yX6_cellProperty, Cond.selects RX6 yX6_cellProperty yX6_cellProperty, Cond.code yX6_cellProperty cX6_cellProperty 3 (some .int), Cond.fieldLink RX6 138 "TwoFacedTiles$Board" "placings" "[I", Cond.methodLink RX6 133 yX0_isFixed]
def wsL_told_r3 : List Cond := [Cond.instanceMethod yX0_isFixed, Cond.selects RX0 yX0_isFixed yX0_isFixed, Cond.code yX0_isFixed cX0_isFixed 2 (some .boolean), Cond.fieldLink RX0 24 "TwoFacedTiles$Board" "fixed" "I", Cond.methodLink RX6 284 yX6_possibleCount, Cond.instanceMethod yX6_possibleCount, Cond.selects RX6 yX6_possibleCount yX6_possibleCount, Cond.code yX6_possibleCount cX6_possibleCount 4 (some .int), Cond.fieldLink RX6 33 "TwoFacedTiles" "needs" "LTwoFacedTiles$Needs;", Cond.fieldLink RX6 72 "TwoFacedTiles$Board" "tiles" "I", Cond.methodLink RX6 130 yX0_isEmpty, Cond.instanceMethod yX0_isEmpty, Cond.selects RX0 yX0_isEmpty yX0_isEmpty, Cond.code yX0_isEmpty cX0_isEmpty 2 (some .boolean), Cond.fieldLink RX0 27 "TwoFacedTiles$Board" "placings" "[I", Cond.methodLink RX6 275 yX3_read, Cond.instanceMethod yX3_read, Cond.selects RX3 yX3_read yX3_read, Cond.initialized RX3, Cond.code yX3_read cX3_read 6 none, Cond.fieldLink RX3 9 "TwoFacedTiles$Needs" "mustBeZero" "I", Cond.fieldLink RX3 15 "TwoFacedTiles$Needs" "mustAgree" "I", Cond.fieldLink RX3 18 "TwoFacedTiles$Needs" "wanted" "I", Cond.fieldLink RX3 21 "TwoFacedTiles$Needs" "forbiddenZero" "Z"]
def wsL_told_r4 : List Cond := [Cond.fieldLink RX3 25 "TwoFacedTiles$Board" "rule" "I", Cond.methodLink RX3 30 yX3_ruledColors, Cond.static yX3_ruledColors, Cond.code yX3_ruledColors cX3_ruledColors 1 (some .int), Cond.constant RX3 55 (983055), Cond.methodLink RX3 34 yX0_neighbor, Cond.instanceMethod yX0_neighbor, Cond.selects RX0 yX0_neighbor yX0_neighbor, Cond.code yX0_neighbor cX0_neighbor 4 (some .int), Cond.methodLink RX3 38 yX0_isEmpty, Cond.methodLink RX3 42 yX0_lookIn, Cond.instanceMethod yX0_lookIn, Cond.selects RX0 yX0_lookIn yX0_lookIn, Cond.code yX0_lookIn cX0_lookIn 2 (some .int), Cond.fieldLink RX0 34 "TwoFacedTiles$Board" "looks" "[I", Cond.static yX6_opposite, Cond.code yX6_opposite cX6_opposite 1 (some .int), Cond.static yX6_colorsAt, Cond.code yX6_colorsAt cX6_colorsAt 2 (some .int), Cond.constant RX6 321 (983055), Cond.methodLink RX3 51 yX3_readNeighbor, Cond.instanceMethod yX3_readNeighbor, Cond.selects RX3 yX3_readNeighbor yX3_readNeighbor, Cond.code yX3_readNeighbor cX3_readNeighbor 4 none]
def wsL_told_r5 : List Cond := [Cond.constant RX3 56 (983040), Cond.methodLink RX6 290 yX6_meetsNeeds, Cond.instanceMethod yX6_meetsNeeds, Cond.selects RX6 yX6_meetsNeeds yX6_meetsNeeds, Cond.code yX6_meetsNeeds cX6_meetsNeeds 2 (some .boolean), Cond.fieldLink RX6 278 "TwoFacedTiles$Board" "looks" "[I", Cond.methodLink RX6 84 yX0_isLaid, Cond.instanceMethod yX0_isLaid, Cond.selects RX0 yX0_isLaid yX0_isLaid, Cond.code yX0_isLaid cX0_isLaid 2 (some .boolean), Cond.fieldLink RX0 31 "TwoFacedTiles$Board" "places" "[I", Cond.methodLink RX6 281 yX3_reasonAgainst, Cond.instanceMethod yX3_reasonAgainst, Cond.selects RX3 yX3_reasonAgainst yX3_reasonAgainst, Cond.code yX3_reasonAgainst cX3_reasonAgainst 3 (some .int), Cond.constant RX3 57 (65535), Cond.methodLink RX6 287 yX6_firstPossible, Cond.instanceMethod yX6_firstPossible, Cond.selects RX6 yX6_firstPossible yX6_firstPossible, Cond.code yX6_firstPossible cX6_firstPossible 3 (some .int), Cond.methodLink RL 35 yX6_color, Cond.instanceMethod yX6_color, Cond.selects RX6 yX6_color yX6_color, Cond.code yX6_color cX6_color 4 (some .int)]
def wsL_told_r6 : List Cond := [Cond.methodLink RX6 217 yX6_colorAt, Cond.instanceMethod yX6_colorAt, Cond.selects RX6 yX6_colorAt yX6_colorAt, Cond.code yX6_colorAt cX6_colorAt 5 (some .int), Cond.methodLink RX6 293 yX0_lookIn, Cond.methodLink RX6 296 yX6_colorsAt, Cond.methodLink RL 38 yX6_tile, Cond.instanceMethod yX6_tile, Cond.selects RX6 yX6_tile yX6_tile, Cond.code yX6_tile cX6_tile 3 (some .int), Cond.methodLink RX6 223 yX6_tileProperty, Cond.instanceMethod yX6_tileProperty, Cond.selects RX6 yX6_tileProperty yX6_tileProperty, Cond.code yX6_tileProperty cX6_tileProperty 3 (some .int), Cond.fieldLink RX6 302 "TwoFacedTiles$Board" "places" "[I", Cond.methodLink RX6 299 yX0_faceOf, Cond.instanceMethod yX0_faceOf, Cond.selects RX0 yX0_faceOf yX0_faceOf, Cond.code yX0_faceOf cX0_faceOf 6 (some .int), Cond.methodLink RX6 305 yX0_lowestLike, Cond.instanceMethod yX0_lowestLike, Cond.selects RX0 yX0_lowestLike yX0_lowestLike, Cond.code yX0_lowestLike cX0_lowestLike 4 (some .int), Cond.methodLink RL 41 yL_at]
def wsL_told_r7 : List Cond := [Cond.static yL_at, Cond.code yL_at cL_at 2 (some .int), Cond.methodLink RL 44 yX6_why, Cond.instanceMethod yX6_why, Cond.selects RX6 yX6_why yX6_why, Cond.code yX6_why cX6_why 3 (some .int), Cond.methodLink RX6 111 yX6_requirePlacing, Cond.instanceMethod yX6_requirePlacing, Cond.selects RX6 yX6_requirePlacing yX6_requirePlacing, Cond.code yX6_requirePlacing cX6_requirePlacing 3 none, Cond.methodLink RX6 272 yX0_hasPlacing, Cond.instanceMethod yX0_hasPlacing, Cond.selects RX0 yX0_hasPlacing yX0_hasPlacing, Cond.code yX0_hasPlacing cX0_hasPlacing 2 (some .boolean), Cond.fieldLink RX0 21 "TwoFacedTiles$Board" "tiles" "I", Cond.methodLink RX6 114 yX6_reason, Cond.instanceMethod yX6_reason, Cond.selects RX6 yX6_reason yX6_reason, Cond.code yX6_reason cX6_reason 3 (some .int), Cond.methodLink RL 46 yL_search, Cond.static yL_search, Cond.code yL_search cL_search 10 none, Cond.methodLink RL 50 yX6_layings, Cond.instanceMethod yX6_layings]
def wsL_told_r8 : List Cond := [Cond.selects RX6 yX6_layings yX6_layings, Cond.code yX6_layings cX6_layings 3 (some .int), Cond.fieldLink RX6 40 "TwoFacedTiles" "search" "LTwoFacedTiles$Search;", Cond.methodLink RX6 157 yX4_run, Cond.instanceMethod yX4_run, Cond.selects RX4 yX4_run yX4_run, Cond.initialized RX4, Cond.code yX4_run cX4_run 3 none, Cond.fieldLink RX4 12 "TwoFacedTiles$Search" "trial" "LTwoFacedTiles$Board;", Cond.methodLink RX4 42 yX0_copyFrom, Cond.instanceMethod yX0_copyFrom, Cond.selects RX0 yX0_copyFrom yX0_copyFrom, Cond.code yX0_copyFrom cX0_copyFrom 2 none, Cond.fieldLink RX0 18 "TwoFacedTiles$Board" "rule" "I", Cond.methodLink RX0 37 arraycopyName, Cond.native arraycopyName, Cond.static arraycopyName, Cond.initialized "java/lang/System", Cond.methodLink RX4 46 yX4_runTrial, Cond.instanceMethod yX4_runTrial, Cond.selects RX4 yX4_runTrial yX4_runTrial, Cond.code yX4_runTrial cX4_runTrial 2 none, Cond.fieldLink RX4 28 "TwoFacedTiles$Search" "most" "I", Cond.fieldLink RX4 18 "TwoFacedTiles$Search" "found" "I"]
def wsL_told_r9 : List Cond := [Cond.fieldLink RX4 31 "TwoFacedTiles$Search" "steps" "I", Cond.fieldLink RX4 34 "TwoFacedTiles$Search" "tooManySteps" "Z", Cond.fieldLink RX4 38 "TwoFacedTiles$Search" "over" "Z", Cond.methodLink RX4 54 yX4_fillFrom, Cond.instanceMethod yX4_fillFrom, Cond.selects RX4 yX4_fillFrom yX4_fillFrom, Cond.code yX4_fillFrom cX4_fillFrom 7 none, Cond.fieldLink RX4 24 "TwoFacedTiles$Search" "needs" "[LTwoFacedTiles$Needs;", Cond.fieldLink RX4 69 "TwoFacedTiles$Board" "tiles" "I", Cond.fieldLink RX4 75 "TwoFacedTiles$Board" "looks" "[I", Cond.methodLink RX4 57 yX0_cells, Cond.methodLink RX4 61 yX0_isEmpty, Cond.methodLink RX4 65 yX3_read, Cond.methodLink RX4 72 yX0_isLaid, Cond.methodLink RX4 79 yX3_reasonAgainst, Cond.methodLink RX4 82 yX4_tryPlacing, Cond.instanceMethod yX4_tryPlacing, Cond.selects RX4 yX4_tryPlacing yX4_tryPlacing, Cond.code yX4_tryPlacing cX4_tryPlacing 3 none, Cond.methodLink RX4 86 yX0_put, Cond.instanceMethod yX0_put, Cond.selects RX0 yX0_put yX0_put, Cond.code yX0_put cX0_put 3 none, Cond.methodLink RX4 89 yX0_remove]
def wsL_told_r10 : List Cond := [Cond.instanceMethod yX0_remove, Cond.selects RX0 yX0_remove yX0_remove, Cond.code yX0_remove cX0_remove 2 none, Cond.methodLink RX6 233 yX4_result, Cond.instanceMethod yX4_result, Cond.selects RX4 yX4_result yX4_result, Cond.code yX4_result cX4_result 2 (some .int), Cond.methodLink RL 53 yX6_fitting, Cond.instanceMethod yX6_fitting, Cond.selects RX6 yX6_fitting yX6_fitting, Cond.code yX6_fitting cX6_fitting 1 (some .double), Cond.methodLink RX6 248 yX6_fittingPart, Cond.instanceMethod yX6_fittingPart, Cond.selects RX6 yX6_fittingPart yX6_fittingPart, Cond.code yX6_fittingPart cX6_fittingPart 3 (some .double), Cond.constant RX6 311 (983040), Cond.methodLink RX6 308 yX0_pairsAlike, Cond.instanceMethod yX0_pairsAlike, Cond.selects RX0 yX0_pairsAlike yX0_pairsAlike, Cond.code yX0_pairsAlike cX0_pairsAlike 4 (some .int), Cond.methodLink RX0 94 yX0_isAlike, Cond.instanceMethod yX0_isAlike, Cond.selects RX0 yX0_isAlike yX0_isAlike, Cond.code yX0_isAlike cX0_isAlike 7 (some .boolean)]
def wsL_told_r11 : List Cond := [Cond.methodLink RX0 80 yX0_neighbor, Cond.methodLink RX0 47 yX0_isEmpty, Cond.methodLink RX0 98 yX0_lookIn, Cond.methodLink RL 57 yX6_hint, Cond.instanceMethod yX6_hint, Cond.selects RX6 yX6_hint yX6_hint, Cond.code yX6_hint cX6_hint 1 (some .int), Cond.methodLink RX6 236 yX6_bestStep, Cond.instanceMethod yX6_bestStep, Cond.selects RX6 yX6_bestStep yX6_bestStep, Cond.code yX6_bestStep cX6_bestStep 5 (some .int), Cond.methodLink RX6 66 yX0_cells, Cond.methodLink RL 61 yX6_count, Cond.instanceMethod yX6_count, Cond.selects RX6 yX6_count yX6_count, Cond.code yX6_count cX6_count 2 (some .int), Cond.methodLink RX6 228 yX6_number, Cond.instanceMethod yX6_number, Cond.selects RX6 yX6_number yX6_number, Cond.code yX6_number cX6_number 2 (some .int), Cond.fieldLink RX6 98 "TwoFacedTiles$Board" "rows" "I", Cond.fieldLink RX6 101 "TwoFacedTiles$Board" "columns" "I", Cond.fieldLink RX6 147 "TwoFacedTiles$Board" "fixed" "I", Cond.fieldLink RX6 92 "TwoFacedTiles$Board" "rule" "I"]
def wsL_told_r12 : List Cond := [Cond.fieldLink RX6 19 "TwoFacedTiles" "history" "LTwoFacedTiles$History;", Cond.fieldLink RX6 199 "TwoFacedTiles$History" "kept" "I", Cond.methodLink RX6 123 yX0_emptyCells, Cond.instanceMethod yX0_emptyCells, Cond.selects RX0 yX0_emptyCells yX0_emptyCells, Cond.code yX0_emptyCells cX0_emptyCells 3 (some .int), Cond.methodLink RX6 239 yJ6_bitCount_0f7a4, Cond.static yJ6_bitCount_0f7a4, Cond.initialized RJ6, Cond.code yJ6_bitCount_0f7a4 cJ6_bitCount_0f7a4 1 (some .int), Cond.constant RJ6 265 (1431655765), Cond.constant RJ6 266 (858993459), Cond.constant RJ6 267 (252645135), Cond.methodLink RX6 312 yX6_misfits, Cond.instanceMethod yX6_misfits, Cond.selects RX6 yX6_misfits yX6_misfits, Cond.code yX6_misfits cX6_misfits 3 (some .int)]
def wsL_told : List Cond := .code yL_told cL_told 20 (some .boolean) :: ((wsL_told_r1 ++ (wsL_told_r2 ++ (wsL_told_r3 ++ (wsL_told_r4 ++ (wsL_told_r5 ++ (wsL_told_r6 ++ (wsL_told_r7 ++ (wsL_told_r8 ++ (wsL_told_r9 ++ (wsL_told_r10 ++ (wsL_told_r11 ++ wsL_told_r12))))))))))) ++ wsX60 ++ wsX00 ++ wsX30 ++ wsX40 ++ wsX20 ++ (vx_atS RX6 59 "java/lang/IllegalArgumentException" ["java/lang/RuntimeException", "java/lang/Exception"]).filter goodWord ++ (vx_atS RX6 216 "java/lang/IndexOutOfBoundsException" ["java/lang/RuntimeException", "java/lang/Exception"]).filter goodWord)
def wsL_cut : List Cond := .code yL_cut cL_cut 11 none :: ([.methodLink RL 14 yL_beyond, .static yL_beyond, .initialized RL, .code yL_beyond cL_beyond 5 (some .int)])
def wsL_act_r1 : List Cond := [Cond.constant RL 68 (99999999), Cond.arrayClass .int, Cond.methodLink RL 41 yL_at, Cond.static yL_at, Cond.initialized RL, Cond.code yL_at cL_at 2 (some .int), Cond.methodLink RL 65 yX6_begin, Cond.instanceMethod yX6_begin, Cond.selects RX6 yX6_begin yX6_begin, Cond.initialized RX6, Cond.code yX6_begin cX6_begin 3 (some .int), Cond.classLink RX6 55 "java/lang/IllegalArgumentException", Cond.initialized "java/lang/IllegalArgumentException", Cond.fieldLink RX6 19 "TwoFacedTiles" "history" "LTwoFacedTiles$History;", Cond.fieldLink RX6 12 "TwoFacedTiles" "board" "LTwoFacedTiles$Board;", Cond.methodLink RX6 62 yX2_save, Cond.instanceMethod yX2_save, Cond.selects RX2 yX2_save yX2_save, Cond.initialized RX2, Cond.code yX2_save cX2_save 2 none, Cond.fieldLink RX2 21 "TwoFacedTiles$History" "kept" "I", Cond.fieldLink RX2 17 "TwoFacedTiles$History" "oldest" "I", Cond.fieldLink RX2 11 "TwoFacedTiles$History" "states" "[LTwoFacedTiles$Board;", Cond.methodLink RX2 25 yX0_copyFrom]
def wsL_act_r2 : List Cond := [Cond.instanceMethod yX0_copyFrom, Cond.selects RX0 yX0_copyFrom yX0_copyFrom, Cond.initialized RX0, Cond.code yX0_copyFrom cX0_copyFrom 2 none, Cond.fieldLink RX0 9 "TwoFacedTiles$Board" "rows" "I", Cond.fieldLink RX0 15 "TwoFacedTiles$Board" "columns" "I", Cond.fieldLink RX0 18 "TwoFacedTiles$Board" "rule" "I", Cond.fieldLink RX0 21 "TwoFacedTiles$Board" "tiles" "I", Cond.fieldLink RX0 24 "TwoFacedTiles$Board" "fixed" "I", Cond.fieldLink RX0 27 "TwoFacedTiles$Board" "placings" "[I", Cond.methodLink RX0 37 arraycopyName, Cond.native arraycopyName, Cond.static arraycopyName, Cond.initialized "java/lang/System", Cond.fieldLink RX0 31 "TwoFacedTiles$Board" "places" "[I", Cond.fieldLink RX0 34 "TwoFacedTiles$Board" "looks" "[I", Cond.methodLink RX6 51 yX0_makeEmpty, Cond.instanceMethod yX0_makeEmpty, Cond.selects RX0 yX0_makeEmpty yX0_makeEmpty, Cond.code yX0_makeEmpty cX0_makeEmpty 4 none, Cond.methodLink RX6 66 yX0_cells, Cond.instanceMethod yX0_cells, Cond.selects RX0 yX0_cells yX0_cells, Cond.code yX0_cells cX0_cells 1 (some .int)]
def wsL_act_r3 : List Cond := [Cond.methodLink RL 69 yL_cut, Cond.static yL_cut, Cond.code yL_cut cL_cut 11 none, Cond.methodLink RL 14 yL_beyond, Cond.static yL_beyond, Cond.code yL_beyond cL_beyond 5 (some .int), Cond.methodLink RL 73 yX6_cut, Cond.instanceMethod yX6_cut, Cond.selects RX6 yX6_cut yX6_cut, Cond.code yX6_cut cX6_cut 3 (some .int), Cond.constant RX6 95 (999999999), Cond.fieldLink RX6 98 "TwoFacedTiles$Board" "rows" "I", Cond.fieldLink RX6 101 "TwoFacedTiles$Board" "columns" "I", Cond.fieldLink RX6 47 "TwoFacedTiles" "draws" "LTwoFacedTiles$Draws;", Cond.fieldLink RX6 72 "TwoFacedTiles$Board" "tiles" "I", Cond.methodLink RX6 104 yX1_start, Cond.instanceMethod yX1_start, Cond.selects RX1 yX1_start yX1_start, Cond.initialized RX1, Cond.code yX1_start cX1_start 3 none, Cond.fieldLink RX1 7 "TwoFacedTiles$Draws" "seed" "I", Cond.fieldLink RX1 13 "TwoFacedTiles$Draws" "colors" "I", Cond.fieldLink RX1 16 "TwoFacedTiles$Draws" "rest" "I", Cond.methodLink RX6 107 yX0_cutTiles]
def wsL_act_r4 : List Cond := [Cond.instanceMethod yX0_cutTiles, Cond.selects RX0 yX0_cutTiles yX0_cutTiles, Cond.code yX0_cutTiles cX0_cutTiles 3 none, Cond.methodLink RX0 43 yX0_cells, Cond.methodLink RX0 76 yX0_cutSide, Cond.instanceMethod yX0_cutSide, Cond.selects RX0 yX0_cutSide yX0_cutSide, Cond.code yX0_cutSide cX0_cutSide 8 none, Cond.methodLink RX0 80 yX0_neighbor, Cond.instanceMethod yX0_neighbor, Cond.selects RX0 yX0_neighbor yX0_neighbor, Cond.code yX0_neighbor cX0_neighbor 4 (some .int), Cond.methodLink RX0 83 yX1_next, Cond.instanceMethod yX1_next, Cond.selects RX1 yX1_next yX1_next, Cond.code yX1_next cX1_next 2 (some .int), Cond.static yX6_opposite, Cond.code yX6_opposite cX6_opposite 1 (some .int), Cond.methodLink RX0 67 yX0_makeWays, Cond.instanceMethod yX0_makeWays, Cond.selects RX0 yX0_makeWays yX0_makeWays, Cond.code yX0_makeWays cX0_makeWays 4 none, Cond.static yX6_turnedOver, Cond.code yX6_turnedOver cX6_turnedOver 5 (some .int)]
def wsL_act_r5 : List Cond := [Cond.methodLink RX6 296 yX6_colorsAt, Cond.static yX6_colorsAt, Cond.code yX6_colorsAt cX6_colorsAt 2 (some .int), Cond.constant RX6 321 (983055), Cond.methodLink RX6 322 yX6_seenFromBehind, Cond.static yX6_seenFromBehind, Cond.code yX6_seenFromBehind cX6_seenFromBehind 1 (some .int), Cond.static yX6_turned, Cond.code yX6_turned cX6_turned 3 (some .int), Cond.methodLink RL 26 yL_why, Cond.static yL_why, Cond.code yL_why cL_why 4 (some .int), Cond.methodLink RL 18 yL_where, Cond.static yL_where, Cond.code yL_where cL_where 3 (some .int), Cond.methodLink RL 22 yL_fits, Cond.static yL_fits, Cond.code yL_fits cL_fits 11 (some .int), Cond.methodLink RL 8 yL_color, Cond.static yL_color, Cond.code yL_color cL_color 7 (some .int), Cond.methodLink RL 75 yX6_lay, Cond.instanceMethod yX6_lay, Cond.selects RX6 yX6_lay yX6_lay]
def wsL_act_r6 : List Cond := [Cond.code yX6_lay cX6_lay 3 (some .int), Cond.classLink RX6 76 "java/lang/IllegalStateException", Cond.initialized "java/lang/IllegalStateException", Cond.methodLink RX6 111 yX6_requirePlacing, Cond.instanceMethod yX6_requirePlacing, Cond.selects RX6 yX6_requirePlacing yX6_requirePlacing, Cond.code yX6_requirePlacing cX6_requirePlacing 3 none, Cond.classLink RX6 212 "java/lang/IndexOutOfBoundsException", Cond.initialized "java/lang/IndexOutOfBoundsException", Cond.methodLink RX6 126 yX6_requireCell, Cond.instanceMethod yX6_requireCell, Cond.selects RX6 yX6_requireCell yX6_requireCell, Cond.code yX6_requireCell cX6_requireCell 2 none, Cond.methodLink RX6 267 yX0_hasCell, Cond.instanceMethod yX0_hasCell, Cond.selects RX0 yX0_hasCell yX0_hasCell, Cond.code yX0_hasCell cX0_hasCell 2 (some .boolean), Cond.methodLink RX6 272 yX0_hasPlacing, Cond.instanceMethod yX0_hasPlacing, Cond.selects RX0 yX0_hasPlacing yX0_hasPlacing, Cond.code yX0_hasPlacing cX0_hasPlacing 2 (some .boolean), Cond.methodLink RX6 114 yX6_reason, Cond.instanceMethod yX6_reason, Cond.selects RX6 yX6_reason yX6_reason]
def wsL_act_r7 : List Cond := [Cond.code yX6_reason cX6_reason 3 (some .int), Cond.fieldLink RX6 33 "TwoFacedTiles" "needs" "LTwoFacedTiles$Needs;", Cond.fieldLink RX6 278 "TwoFacedTiles$Board" "looks" "[I", Cond.methodLink RX6 130 yX0_isEmpty, Cond.instanceMethod yX0_isEmpty, Cond.selects RX0 yX0_isEmpty yX0_isEmpty, Cond.code yX0_isEmpty cX0_isEmpty 2 (some .boolean), Cond.methodLink RX6 84 yX0_isLaid, Cond.instanceMethod yX0_isLaid, Cond.selects RX0 yX0_isLaid yX0_isLaid, Cond.code yX0_isLaid cX0_isLaid 2 (some .boolean), Cond.methodLink RX6 275 yX3_read, Cond.instanceMethod yX3_read, Cond.selects RX3 yX3_read yX3_read, Cond.initialized RX3, Cond.code yX3_read cX3_read 6 none, Cond.fieldLink RX3 9 "TwoFacedTiles$Needs" "mustBeZero" "I", Cond.fieldLink RX3 15 "TwoFacedTiles$Needs" "mustAgree" "I", Cond.fieldLink RX3 18 "TwoFacedTiles$Needs" "wanted" "I", Cond.fieldLink RX3 21 "TwoFacedTiles$Needs" "forbiddenZero" "Z", Cond.fieldLink RX3 25 "TwoFacedTiles$Board" "rule" "I", Cond.methodLink RX3 30 yX3_ruledColors, Cond.static yX3_ruledColors, Cond.code yX3_ruledColors cX3_ruledColors 1 (some .int)]
def wsL_act_r8 : List Cond := [Cond.constant RX3 55 (983055), Cond.methodLink RX3 34 yX0_neighbor, Cond.methodLink RX3 38 yX0_isEmpty, Cond.methodLink RX3 42 yX0_lookIn, Cond.instanceMethod yX0_lookIn, Cond.selects RX0 yX0_lookIn yX0_lookIn, Cond.code yX0_lookIn cX0_lookIn 2 (some .int), Cond.methodLink RX3 51 yX3_readNeighbor, Cond.instanceMethod yX3_readNeighbor, Cond.selects RX3 yX3_readNeighbor yX3_readNeighbor, Cond.code yX3_readNeighbor cX3_readNeighbor 4 none, Cond.constant RX3 56 (983040), Cond.methodLink RX6 281 yX3_reasonAgainst, Cond.instanceMethod yX3_reasonAgainst, Cond.selects RX3 yX3_reasonAgainst yX3_reasonAgainst, Cond.code yX3_reasonAgainst cX3_reasonAgainst 3 (some .int), Cond.constant RX3 57 (65535), Cond.methodLink RX6 120 yX0_put, Cond.instanceMethod yX0_put, Cond.selects RX0 yX0_put yX0_put, Cond.code yX0_put cX0_put 3 none, Cond.methodLink RX6 123 yX0_emptyCells, Cond.instanceMethod yX0_emptyCells, Cond.selects RX0 yX0_emptyCells yX0_emptyCells]
def wsL_act_r9 : List Cond := [Cond.code yX0_emptyCells cX0_emptyCells 3 (some .int), Cond.methodLink RX0 47 yX0_isEmpty, Cond.methodLink RL 78 yX6_take, Cond.instanceMethod yX6_take, Cond.selects RX6 yX6_take yX6_take, Cond.code yX6_take cX6_take 3 (some .int), Cond.fieldLink RX6 138 "TwoFacedTiles$Board" "placings" "[I", Cond.methodLink RX6 133 yX0_isFixed, Cond.instanceMethod yX0_isFixed, Cond.selects RX0 yX0_isFixed yX0_isFixed, Cond.code yX0_isFixed cX0_isFixed 2 (some .boolean), Cond.methodLink RX6 142 yX0_remove, Cond.instanceMethod yX0_remove, Cond.selects RX0 yX0_remove yX0_remove, Cond.code yX0_remove cX0_remove 2 none, Cond.methodLink RL 81 yX6_fix, Cond.instanceMethod yX6_fix, Cond.selects RX6 yX6_fix yX6_fix, Cond.code yX6_fix cX6_fix 2 (some .int), Cond.fieldLink RX6 147 "TwoFacedTiles$Board" "fixed" "I", Cond.methodLink RL 84 yX6_setRule, Cond.instanceMethod yX6_setRule, Cond.selects RX6 yX6_setRule yX6_setRule, Cond.code yX6_setRule cX6_setRule 3 (some .int)]
def wsL_act_r10 : List Cond := [Cond.fieldLink RX6 92 "TwoFacedTiles$Board" "rule" "I", Cond.methodLink RL 87 yX6_clear, Cond.instanceMethod yX6_clear, Cond.selects RX6 yX6_clear yX6_clear, Cond.code yX6_clear cX6_clear 1 (some .int), Cond.methodLink RX6 150 yX0_removeAllBut, Cond.instanceMethod yX0_removeAllBut, Cond.selects RX0 yX0_removeAllBut yX0_removeAllBut, Cond.code yX0_removeAllBut cX0_removeAllBut 4 (some .int), Cond.methodLink RX0 51 yX0_remove, Cond.methodLink RL 90 yX6_turnOver, Cond.instanceMethod yX6_turnOver, Cond.selects RX6 yX6_turnOver yX6_turnOver, Cond.code yX6_turnOver cX6_turnOver 1 (some .int), Cond.methodLink RX6 154 yX0_mirror, Cond.instanceMethod yX0_mirror, Cond.selects RX0 yX0_mirror yX0_mirror, Cond.code yX0_mirror cX0_mirror 6 none, Cond.methodLink RX0 55 yX0_swapTurnedOver, Cond.instanceMethod yX0_swapTurnedOver, Cond.selects RX0 yX0_swapTurnedOver yX0_swapTurnedOver, Cond.code yX0_swapTurnedOver cX0_swapTurnedOver 4 none, Cond.static yX6_placingTurnedOver, Cond.code yX6_placingTurnedOver cX6_placingTurnedOver 4 (some .int)]
def wsL_act_r11 : List Cond := [Cond.methodLink RL 93 yX6_addTile, Cond.instanceMethod yX6_addTile, Cond.selects RX6 yX6_addTile yX6_addTile, Cond.code yX6_addTile cX6_addTile 3 (some .int), Cond.methodLink RX6 81 yX0_addFaces, Cond.instanceMethod yX0_addFaces, Cond.selects RX0 yX0_addFaces yX0_addFaces, Cond.code yX0_addFaces cX0_addFaces 3 none, Cond.static yX6_lookOfFaces, Cond.code yX6_lookOfFaces cX6_lookOfFaces 6 (some .int), Cond.methodLink RX6 325 yX6_digit, Cond.static yX6_digit, Cond.code yX6_digit cX6_digit 4 (some .int), Cond.methodLink RL 96 yX6_dropTile, Cond.instanceMethod yX6_dropTile, Cond.selects RX6 yX6_dropTile yX6_dropTile, Cond.code yX6_dropTile cX6_dropTile 1 (some .int), Cond.methodLink RL 46 yL_search, Cond.static yL_search, Cond.code yL_search cL_search 10 none, Cond.methodLink RL 99 yX6_solve, Cond.instanceMethod yX6_solve, Cond.selects RX6 yX6_solve yX6_solve, Cond.code yX6_solve cX6_solve 2 (some .int)]
def wsL_act_r12 : List Cond := [Cond.fieldLink RX6 40 "TwoFacedTiles" "search" "LTwoFacedTiles$Search;", Cond.fieldLink RX6 161 "TwoFacedTiles$Search" "found" "I", Cond.fieldLink RX6 166 "TwoFacedTiles$Search" "trial" "LTwoFacedTiles$Board;", Cond.methodLink RX6 157 yX4_run, Cond.instanceMethod yX4_run, Cond.selects RX4 yX4_run yX4_run, Cond.initialized RX4, Cond.code yX4_run cX4_run 3 none, Cond.fieldLink RX4 12 "TwoFacedTiles$Search" "trial" "LTwoFacedTiles$Board;", Cond.methodLink RX4 42 yX0_copyFrom, Cond.methodLink RX4 46 yX4_runTrial, Cond.instanceMethod yX4_runTrial, Cond.selects RX4 yX4_runTrial yX4_runTrial, Cond.code yX4_runTrial cX4_runTrial 2 none, Cond.fieldLink RX4 28 "TwoFacedTiles$Search" "most" "I", Cond.fieldLink RX4 18 "TwoFacedTiles$Search" "found" "I", Cond.fieldLink RX4 31 "TwoFacedTiles$Search" "steps" "I", Cond.fieldLink RX4 34 "TwoFacedTiles$Search" "tooManySteps" "Z", Cond.fieldLink RX4 38 "TwoFacedTiles$Search" "over" "Z", Cond.methodLink RX4 54 yX4_fillFrom, Cond.instanceMethod yX4_fillFrom, Cond.selects RX4 yX4_fillFrom yX4_fillFrom, Cond.code yX4_fillFrom cX4_fillFrom 7 none, Cond.fieldLink RX4 24 "TwoFacedTiles$Search" "needs" "[LTwoFacedTiles$Needs;"]
def wsL_act_r13 : List Cond := [Cond.fieldLink RX4 69 "TwoFacedTiles$Board" "tiles" "I", Cond.fieldLink RX4 75 "TwoFacedTiles$Board" "looks" "[I", Cond.methodLink RX4 57 yX0_cells, Cond.methodLink RX4 61 yX0_isEmpty, Cond.methodLink RX4 65 yX3_read, Cond.methodLink RX4 72 yX0_isLaid, Cond.methodLink RX4 79 yX3_reasonAgainst, Cond.methodLink RX4 82 yX4_tryPlacing, Cond.instanceMethod yX4_tryPlacing, Cond.selects RX4 yX4_tryPlacing yX4_tryPlacing, Cond.code yX4_tryPlacing cX4_tryPlacing 3 none, Cond.methodLink RX4 86 yX0_put, Cond.methodLink RX4 89 yX0_remove, Cond.methodLink RX6 169 yX0_copyFrom]
def wsL_act : List Cond := .code yL_act cL_act 13 (some .boolean) :: ((wsL_act_r1 ++ (wsL_act_r2 ++ (wsL_act_r3 ++ (wsL_act_r4 ++ (wsL_act_r5 ++ (wsL_act_r6 ++ (wsL_act_r7 ++ (wsL_act_r8 ++ (wsL_act_r9 ++ (wsL_act_r10 ++ (wsL_act_r11 ++ (wsL_act_r12 ++ wsL_act_r13)))))))))))) ++ wsX60 ++ wsX20 ++ wsX00 ++ wsX10 ++ wsX30 ++ wsX40 ++ (vx_atS RX6 59 "java/lang/IllegalArgumentException" ["java/lang/RuntimeException", "java/lang/Exception"]).filter goodWord ++ (vx_atS RX6 80 "java/lang/IllegalStateException" ["java/lang/RuntimeException", "java/lang/Exception"]).filter goodWord ++ (vx_atS RX6 216 "java/lang/IndexOutOfBoundsException" ["java/lang/RuntimeException", "java/lang/Exception"]).filter goodWord)
def wsL_law0_r1 : List Cond := [Cond.classLink RL 30 RX6, Cond.instantiable RX6 6, Cond.initialized RX6, Cond.arrayClass .int, Cond.constant RL 110 (2147483647), Cond.methodLink RL 102 yX6_init, Cond.instanceMethod yX6_init, Cond.code yX6_init cX6_init 1 none, Cond.methodLink RX6 3 objectInit, Cond.instanceMethod objectInit, Cond.code objectInit ⟨#[0xb1]⟩ 1 none, Cond.classLink RX6 9 RX0, Cond.instantiable RX0 8, Cond.initialized RX0, Cond.fieldLink RX6 12 "TwoFacedTiles" "board" "LTwoFacedTiles$Board;", Cond.classLink RX6 16 RX2, Cond.instantiable RX2 3, Cond.initialized RX2, Cond.fieldLink RX6 19 "TwoFacedTiles" "history" "LTwoFacedTiles$History;", Cond.classLink RX6 23 RX5, Cond.instantiable RX5 2, Cond.initialized RX5, Cond.fieldLink RX6 26 "TwoFacedTiles" "text" "LTwoFacedTiles$Text;", Cond.classLink RX6 30 RX3]
def wsL_law0_r2 : List Cond := [Cond.instantiable RX3 4, Cond.initialized RX3, Cond.fieldLink RX6 33 "TwoFacedTiles" "needs" "LTwoFacedTiles$Needs;", Cond.classLink RX6 37 RX4, Cond.instantiable RX4 7, Cond.initialized RX4, Cond.fieldLink RX6 40 "TwoFacedTiles" "search" "LTwoFacedTiles$Search;", Cond.classLink RX6 44 RX1, Cond.instantiable RX1 3, Cond.initialized RX1, Cond.fieldLink RX6 47 "TwoFacedTiles" "draws" "LTwoFacedTiles$Draws;", Cond.instanceMethod yX0_init, Cond.code yX0_init cX0_init 1 none, Cond.methodLink RX0 3 objectInit, Cond.fieldLink RX0 9 "TwoFacedTiles$Board" "rows" "I", Cond.fieldLink RX0 15 "TwoFacedTiles$Board" "columns" "I", Cond.fieldLink RX0 18 "TwoFacedTiles$Board" "rule" "I", Cond.fieldLink RX0 21 "TwoFacedTiles$Board" "tiles" "I", Cond.fieldLink RX0 24 "TwoFacedTiles$Board" "fixed" "I", Cond.fieldLink RX0 27 "TwoFacedTiles$Board" "placings" "[I", Cond.fieldLink RX0 31 "TwoFacedTiles$Board" "places" "[I", Cond.fieldLink RX0 34 "TwoFacedTiles$Board" "looks" "[I", Cond.methodLink RX6 18 yX2_init, Cond.instanceMethod yX2_init]
def wsL_law0_r3 : List Cond := [Cond.code yX2_init cX2_init 2 none, Cond.methodLink RX2 3 objectInit, Cond.classLink RX2 9 RX0, Cond.fieldLink RX2 11 "TwoFacedTiles$History" "states" "[LTwoFacedTiles$Board;", Cond.fieldLink RX2 17 "TwoFacedTiles$History" "oldest" "I", Cond.fieldLink RX2 21 "TwoFacedTiles$History" "kept" "I", Cond.instanceMethod yX5_init, Cond.code yX5_init cX5_init 1 none, Cond.methodLink RX5 3 objectInit, Cond.fieldLink RX5 9 "TwoFacedTiles$Text" "codes" "[I", Cond.fieldLink RX5 15 "TwoFacedTiles$Text" "length" "I", Cond.instanceMethod yX3_init, Cond.code yX3_init cX3_init 1 none, Cond.methodLink RX3 3 objectInit, Cond.fieldLink RX3 9 "TwoFacedTiles$Needs" "mustBeZero" "I", Cond.fieldLink RX3 15 "TwoFacedTiles$Needs" "mustAgree" "I", Cond.fieldLink RX3 18 "TwoFacedTiles$Needs" "wanted" "I", Cond.fieldLink RX3 21 "TwoFacedTiles$Needs" "forbiddenZero" "Z", Cond.methodLink RX6 39 yX4_init, Cond.instanceMethod yX4_init, Cond.code yX4_init cX4_init 2 none, Cond.methodLink RX4 3 objectInit, Cond.classLink RX4 9 RX0, Cond.fieldLink RX4 12 "TwoFacedTiles$Search" "trial" "LTwoFacedTiles$Board;"]
def wsL_law0_r4 : List Cond := [Cond.fieldLink RX4 18 "TwoFacedTiles$Search" "found" "I", Cond.classLink RX4 22 RX3, Cond.fieldLink RX4 24 "TwoFacedTiles$Search" "needs" "[LTwoFacedTiles$Needs;", Cond.fieldLink RX4 28 "TwoFacedTiles$Search" "most" "I", Cond.fieldLink RX4 31 "TwoFacedTiles$Search" "steps" "I", Cond.fieldLink RX4 34 "TwoFacedTiles$Search" "tooManySteps" "Z", Cond.fieldLink RX4 38 "TwoFacedTiles$Search" "over" "Z", Cond.instanceMethod yX1_init, Cond.code yX1_init cX1_init 1 none, Cond.methodLink RX1 1 objectInit, Cond.fieldLink RX1 7 "TwoFacedTiles$Draws" "seed" "I", Cond.fieldLink RX1 13 "TwoFacedTiles$Draws" "colors" "I", Cond.fieldLink RX1 16 "TwoFacedTiles$Draws" "rest" "I", Cond.methodLink RX6 51 yX0_makeEmpty, Cond.instanceMethod yX0_makeEmpty, Cond.selects RX0 yX0_makeEmpty yX0_makeEmpty, Cond.code yX0_makeEmpty cX0_makeEmpty 4 none, Cond.methodLink RL 103 yL_told, Cond.static yL_told, Cond.initialized RL, Cond.code yL_told cL_told 20 (some .boolean), Cond.methodLink RL 26 yL_why, Cond.static yL_why, Cond.code yL_why cL_why 4 (some .int)]
def wsL_law0_r5 : List Cond := [Cond.methodLink RL 18 yL_where, Cond.static yL_where, Cond.code yL_where cL_where 3 (some .int), Cond.methodLink RL 22 yL_fits, Cond.static yL_fits, Cond.code yL_fits cL_fits 11 (some .int), Cond.methodLink RL 8 yL_color, Cond.static yL_color, Cond.code yL_color cL_color 7 (some .int), Cond.methodLink RL 14 yL_beyond, Cond.static yL_beyond, Cond.code yL_beyond cL_beyond 5 (some .int), Cond.methodLink RL 29 yX6_cell, Cond.instanceMethod yX6_cell, Cond.selects RX6 yX6_cell yX6_cell, Cond.code yX6_cell cX6_cell 3 (some .int), Cond.classLink RX6 55 "java/lang/IllegalArgumentException", Cond.initialized "java/lang/IllegalArgumentException", Cond.methodLink RX6 126 yX6_requireCell, Cond.instanceMethod yX6_requireCell, Cond.selects RX6 yX6_requireCell yX6_requireCell, Cond.code yX6_requireCell cX6_requireCell 2 none, Cond.classLink RX6 212 "java/lang/IndexOutOfBoundsException", Cond.initialized "java/lang/IndexOutOfBoundsException"]
def wsL_law0_r6 : List Cond := [Cond.methodLink RX6 267 yX0_hasCell, Cond.instanceMethod yX0_hasCell, Cond.selects RX0 yX0_hasCell yX0_hasCell, Cond.code yX0_hasCell cX0_hasCell 2 (some .boolean), Cond.methodLink RX0 43 yX0_cells, Cond.instanceMethod yX0_cells, Cond.selects RX0 yX0_cells yX0_cells, Cond.code yX0_cells cX0_cells 1 (some .int), Cond.methodLink RX6 209 yX6_cellProperty, Cond.instanceMethod yX6_cellProperty, Cond.selects RX6 yX6_cellProperty yX6_cellProperty, Cond.code yX6_cellProperty cX6_cellProperty 3 (some .int), Cond.fieldLink RX6 138 "TwoFacedTiles$Board" "placings" "[I", Cond.methodLink RX6 133 yX0_isFixed, Cond.instanceMethod yX0_isFixed, Cond.selects RX0 yX0_isFixed yX0_isFixed, Cond.code yX0_isFixed cX0_isFixed 2 (some .boolean), Cond.methodLink RX6 284 yX6_possibleCount, Cond.instanceMethod yX6_possibleCount, Cond.selects RX6 yX6_possibleCount yX6_possibleCount, Cond.code yX6_possibleCount cX6_possibleCount 4 (some .int), Cond.fieldLink RX6 72 "TwoFacedTiles$Board" "tiles" "I", Cond.methodLink RX6 130 yX0_isEmpty, Cond.instanceMethod yX0_isEmpty]
def wsL_law0_r7 : List Cond := [Cond.selects RX0 yX0_isEmpty yX0_isEmpty, Cond.code yX0_isEmpty cX0_isEmpty 2 (some .boolean), Cond.methodLink RX6 275 yX3_read, Cond.instanceMethod yX3_read, Cond.selects RX3 yX3_read yX3_read, Cond.code yX3_read cX3_read 6 none, Cond.fieldLink RX3 25 "TwoFacedTiles$Board" "rule" "I", Cond.methodLink RX3 30 yX3_ruledColors, Cond.static yX3_ruledColors, Cond.code yX3_ruledColors cX3_ruledColors 1 (some .int), Cond.constant RX3 55 (983055), Cond.methodLink RX3 34 yX0_neighbor, Cond.instanceMethod yX0_neighbor, Cond.selects RX0 yX0_neighbor yX0_neighbor, Cond.code yX0_neighbor cX0_neighbor 4 (some .int), Cond.methodLink RX3 38 yX0_isEmpty, Cond.methodLink RX3 42 yX0_lookIn, Cond.instanceMethod yX0_lookIn, Cond.selects RX0 yX0_lookIn yX0_lookIn, Cond.code yX0_lookIn cX0_lookIn 2 (some .int), Cond.static yX6_opposite, Cond.code yX6_opposite cX6_opposite 1 (some .int), Cond.static yX6_colorsAt, Cond.code yX6_colorsAt cX6_colorsAt 2 (some .int)]
def wsL_law0_r8 : List Cond := [Cond.constant RX6 321 (983055), Cond.methodLink RX3 51 yX3_readNeighbor, Cond.instanceMethod yX3_readNeighbor, Cond.selects RX3 yX3_readNeighbor yX3_readNeighbor, Cond.code yX3_readNeighbor cX3_readNeighbor 4 none, Cond.constant RX3 56 (983040), Cond.methodLink RX6 290 yX6_meetsNeeds, Cond.instanceMethod yX6_meetsNeeds, Cond.selects RX6 yX6_meetsNeeds yX6_meetsNeeds, Cond.code yX6_meetsNeeds cX6_meetsNeeds 2 (some .boolean), Cond.fieldLink RX6 278 "TwoFacedTiles$Board" "looks" "[I", Cond.methodLink RX6 84 yX0_isLaid, Cond.instanceMethod yX0_isLaid, Cond.selects RX0 yX0_isLaid yX0_isLaid, Cond.code yX0_isLaid cX0_isLaid 2 (some .boolean), Cond.methodLink RX6 281 yX3_reasonAgainst, Cond.instanceMethod yX3_reasonAgainst, Cond.selects RX3 yX3_reasonAgainst yX3_reasonAgainst, Cond.code yX3_reasonAgainst cX3_reasonAgainst 3 (some .int), Cond.constant RX3 57 (65535), Cond.methodLink RX6 287 yX6_firstPossible, Cond.instanceMethod yX6_firstPossible, Cond.selects RX6 yX6_firstPossible yX6_firstPossible, Cond.code yX6_firstPossible cX6_firstPossible 3 (some .int)]
def wsL_law0_r9 : List Cond := [Cond.methodLink RL 35 yX6_color, Cond.instanceMethod yX6_color, Cond.selects RX6 yX6_color yX6_color, Cond.code yX6_color cX6_color 4 (some .int), Cond.methodLink RX6 217 yX6_colorAt, Cond.instanceMethod yX6_colorAt, Cond.selects RX6 yX6_colorAt yX6_colorAt, Cond.code yX6_colorAt cX6_colorAt 5 (some .int), Cond.methodLink RX6 293 yX0_lookIn, Cond.methodLink RX6 296 yX6_colorsAt, Cond.methodLink RL 38 yX6_tile, Cond.instanceMethod yX6_tile, Cond.selects RX6 yX6_tile yX6_tile, Cond.code yX6_tile cX6_tile 3 (some .int), Cond.methodLink RX6 223 yX6_tileProperty, Cond.instanceMethod yX6_tileProperty, Cond.selects RX6 yX6_tileProperty yX6_tileProperty, Cond.code yX6_tileProperty cX6_tileProperty 3 (some .int), Cond.fieldLink RX6 302 "TwoFacedTiles$Board" "places" "[I", Cond.methodLink RX6 299 yX0_faceOf, Cond.instanceMethod yX0_faceOf, Cond.selects RX0 yX0_faceOf yX0_faceOf, Cond.code yX0_faceOf cX0_faceOf 6 (some .int), Cond.methodLink RX6 305 yX0_lowestLike]
def wsL_law0_r10 : List Cond := [Cond.instanceMethod yX0_lowestLike, Cond.selects RX0 yX0_lowestLike yX0_lowestLike, Cond.code yX0_lowestLike cX0_lowestLike 4 (some .int), Cond.methodLink RL 41 yL_at, Cond.static yL_at, Cond.code yL_at cL_at 2 (some .int), Cond.methodLink RL 44 yX6_why, Cond.instanceMethod yX6_why, Cond.selects RX6 yX6_why yX6_why, Cond.code yX6_why cX6_why 3 (some .int), Cond.methodLink RX6 111 yX6_requirePlacing, Cond.instanceMethod yX6_requirePlacing, Cond.selects RX6 yX6_requirePlacing yX6_requirePlacing, Cond.code yX6_requirePlacing cX6_requirePlacing 3 none, Cond.methodLink RX6 272 yX0_hasPlacing, Cond.instanceMethod yX0_hasPlacing, Cond.selects RX0 yX0_hasPlacing yX0_hasPlacing, Cond.code yX0_hasPlacing cX0_hasPlacing 2 (some .boolean), Cond.methodLink RX6 114 yX6_reason, Cond.instanceMethod yX6_reason, Cond.selects RX6 yX6_reason yX6_reason, Cond.code yX6_reason cX6_reason 3 (some .int), Cond.methodLink RL 46 yL_search, Cond.static yL_search]
def wsL_law0_r11 : List Cond := [Cond.code yL_search cL_search 10 none, Cond.methodLink RL 50 yX6_layings, Cond.instanceMethod yX6_layings, Cond.selects RX6 yX6_layings yX6_layings, Cond.code yX6_layings cX6_layings 3 (some .int), Cond.methodLink RX6 157 yX4_run, Cond.instanceMethod yX4_run, Cond.selects RX4 yX4_run yX4_run, Cond.code yX4_run cX4_run 3 none, Cond.methodLink RX4 42 yX0_copyFrom, Cond.instanceMethod yX0_copyFrom, Cond.selects RX0 yX0_copyFrom yX0_copyFrom, Cond.code yX0_copyFrom cX0_copyFrom 2 none, Cond.methodLink RX0 37 arraycopyName, Cond.native arraycopyName, Cond.static arraycopyName, Cond.initialized "java/lang/System", Cond.methodLink RX4 46 yX4_runTrial, Cond.instanceMethod yX4_runTrial, Cond.selects RX4 yX4_runTrial yX4_runTrial, Cond.code yX4_runTrial cX4_runTrial 2 none, Cond.methodLink RX4 54 yX4_fillFrom, Cond.instanceMethod yX4_fillFrom, Cond.selects RX4 yX4_fillFrom yX4_fillFrom]
def wsL_law0_r12 : List Cond := [Cond.code yX4_fillFrom cX4_fillFrom 7 none, Cond.fieldLink RX4 69 "TwoFacedTiles$Board" "tiles" "I", Cond.fieldLink RX4 75 "TwoFacedTiles$Board" "looks" "[I", Cond.methodLink RX4 57 yX0_cells, Cond.methodLink RX4 61 yX0_isEmpty, Cond.methodLink RX4 65 yX3_read, Cond.methodLink RX4 72 yX0_isLaid, Cond.methodLink RX4 79 yX3_reasonAgainst, Cond.methodLink RX4 82 yX4_tryPlacing, Cond.instanceMethod yX4_tryPlacing, Cond.selects RX4 yX4_tryPlacing yX4_tryPlacing, Cond.code yX4_tryPlacing cX4_tryPlacing 3 none, Cond.methodLink RX4 86 yX0_put, Cond.instanceMethod yX0_put, Cond.selects RX0 yX0_put yX0_put, Cond.code yX0_put cX0_put 3 none, Cond.methodLink RX4 89 yX0_remove, Cond.instanceMethod yX0_remove, Cond.selects RX0 yX0_remove yX0_remove, Cond.code yX0_remove cX0_remove 2 none, Cond.methodLink RX6 233 yX4_result, Cond.instanceMethod yX4_result, Cond.selects RX4 yX4_result yX4_result, Cond.code yX4_result cX4_result 2 (some .int)]
def wsL_law0_r13 : List Cond := [Cond.methodLink RL 53 yX6_fitting, Cond.instanceMethod yX6_fitting, Cond.selects RX6 yX6_fitting yX6_fitting, Cond.code yX6_fitting cX6_fitting 1 (some .double), Cond.methodLink RX6 248 yX6_fittingPart, Cond.instanceMethod yX6_fittingPart, Cond.selects RX6 yX6_fittingPart yX6_fittingPart, Cond.code yX6_fittingPart cX6_fittingPart 3 (some .double), Cond.constant RX6 311 (983040), Cond.methodLink RX6 308 yX0_pairsAlike, Cond.instanceMethod yX0_pairsAlike, Cond.selects RX0 yX0_pairsAlike yX0_pairsAlike, Cond.code yX0_pairsAlike cX0_pairsAlike 4 (some .int), Cond.methodLink RX0 94 yX0_isAlike, Cond.instanceMethod yX0_isAlike, Cond.selects RX0 yX0_isAlike yX0_isAlike, Cond.code yX0_isAlike cX0_isAlike 7 (some .boolean), Cond.methodLink RX0 80 yX0_neighbor, Cond.methodLink RX0 47 yX0_isEmpty, Cond.methodLink RX0 98 yX0_lookIn, Cond.methodLink RL 57 yX6_hint, Cond.instanceMethod yX6_hint, Cond.selects RX6 yX6_hint yX6_hint, Cond.code yX6_hint cX6_hint 1 (some .int)]
def wsL_law0_r14 : List Cond := [Cond.methodLink RX6 236 yX6_bestStep, Cond.instanceMethod yX6_bestStep, Cond.selects RX6 yX6_bestStep yX6_bestStep, Cond.code yX6_bestStep cX6_bestStep 5 (some .int), Cond.methodLink RX6 66 yX0_cells, Cond.methodLink RL 61 yX6_count, Cond.instanceMethod yX6_count, Cond.selects RX6 yX6_count yX6_count, Cond.code yX6_count cX6_count 2 (some .int), Cond.methodLink RX6 228 yX6_number, Cond.instanceMethod yX6_number, Cond.selects RX6 yX6_number yX6_number, Cond.code yX6_number cX6_number 2 (some .int), Cond.fieldLink RX6 98 "TwoFacedTiles$Board" "rows" "I", Cond.fieldLink RX6 101 "TwoFacedTiles$Board" "columns" "I", Cond.fieldLink RX6 147 "TwoFacedTiles$Board" "fixed" "I", Cond.fieldLink RX6 92 "TwoFacedTiles$Board" "rule" "I", Cond.fieldLink RX6 199 "TwoFacedTiles$History" "kept" "I", Cond.methodLink RX6 123 yX0_emptyCells, Cond.instanceMethod yX0_emptyCells, Cond.selects RX0 yX0_emptyCells yX0_emptyCells, Cond.code yX0_emptyCells cX0_emptyCells 3 (some .int), Cond.methodLink RX6 239 yJ6_bitCount_0f7a4, Cond.static yJ6_bitCount_0f7a4]
def wsL_law0_r15 : List Cond := [Cond.initialized RJ6, Cond.code yJ6_bitCount_0f7a4 cJ6_bitCount_0f7a4 1 (some .int), Cond.constant RJ6 265 (1431655765), Cond.constant RJ6 266 (858993459), Cond.constant RJ6 267 (252645135), Cond.methodLink RX6 312 yX6_misfits, Cond.instanceMethod yX6_misfits, Cond.selects RX6 yX6_misfits yX6_misfits, Cond.code yX6_misfits cX6_misfits 3 (some .int), Cond.methodLink RL 107 yL_cell, Cond.static yL_cell, Cond.code yL_cell cL_cell 2 (some .int), Cond.constant RL 7 (1540483477), Cond.methodLink RL 111 yL_act, Cond.static yL_act, Cond.code yL_act cL_act 13 (some .boolean), Cond.constant RL 68 (99999999), Cond.methodLink RL 65 yX6_begin, Cond.instanceMethod yX6_begin, Cond.selects RX6 yX6_begin yX6_begin, Cond.code yX6_begin cX6_begin 3 (some .int), Cond.methodLink RX6 62 yX2_save, Cond.instanceMethod yX2_save, Cond.selects RX2 yX2_save yX2_save]
def wsL_law0_r16 : List Cond := [Cond.code yX2_save cX2_save 2 none, Cond.methodLink RX2 25 yX0_copyFrom, Cond.methodLink RL 69 yL_cut, Cond.static yL_cut, Cond.code yL_cut cL_cut 11 none, Cond.methodLink RL 73 yX6_cut, Cond.instanceMethod yX6_cut, Cond.selects RX6 yX6_cut yX6_cut, Cond.code yX6_cut cX6_cut 3 (some .int), Cond.constant RX6 95 (999999999), Cond.methodLink RX6 104 yX1_start, Cond.instanceMethod yX1_start, Cond.selects RX1 yX1_start yX1_start, Cond.code yX1_start cX1_start 3 none, Cond.methodLink RX6 107 yX0_cutTiles, Cond.instanceMethod yX0_cutTiles, Cond.selects RX0 yX0_cutTiles yX0_cutTiles, Cond.code yX0_cutTiles cX0_cutTiles 3 none, Cond.methodLink RX0 76 yX0_cutSide, Cond.instanceMethod yX0_cutSide, Cond.selects RX0 yX0_cutSide yX0_cutSide, Cond.code yX0_cutSide cX0_cutSide 8 none, Cond.methodLink RX0 83 yX1_next, Cond.instanceMethod yX1_next]
def wsL_law0_r17 : List Cond := [Cond.selects RX1 yX1_next yX1_next, Cond.code yX1_next cX1_next 2 (some .int), Cond.methodLink RX0 67 yX0_makeWays, Cond.instanceMethod yX0_makeWays, Cond.selects RX0 yX0_makeWays yX0_makeWays, Cond.code yX0_makeWays cX0_makeWays 4 none, Cond.static yX6_turnedOver, Cond.code yX6_turnedOver cX6_turnedOver 5 (some .int), Cond.methodLink RX6 322 yX6_seenFromBehind, Cond.static yX6_seenFromBehind, Cond.code yX6_seenFromBehind cX6_seenFromBehind 1 (some .int), Cond.static yX6_turned, Cond.code yX6_turned cX6_turned 3 (some .int), Cond.methodLink RL 75 yX6_lay, Cond.instanceMethod yX6_lay, Cond.selects RX6 yX6_lay yX6_lay, Cond.code yX6_lay cX6_lay 3 (some .int), Cond.classLink RX6 76 "java/lang/IllegalStateException", Cond.initialized "java/lang/IllegalStateException", Cond.methodLink RX6 120 yX0_put, Cond.methodLink RL 78 yX6_take, Cond.instanceMethod yX6_take, Cond.selects RX6 yX6_take yX6_take, Cond.code yX6_take cX6_take 3 (some .int)]
def wsL_law0_r18 : List Cond := [Cond.methodLink RX6 142 yX0_remove, Cond.methodLink RL 81 yX6_fix, Cond.instanceMethod yX6_fix, Cond.selects RX6 yX6_fix yX6_fix, Cond.code yX6_fix cX6_fix 2 (some .int), Cond.methodLink RL 84 yX6_setRule, Cond.instanceMethod yX6_setRule, Cond.selects RX6 yX6_setRule yX6_setRule, Cond.code yX6_setRule cX6_setRule 3 (some .int), Cond.methodLink RL 87 yX6_clear, Cond.instanceMethod yX6_clear, Cond.selects RX6 yX6_clear yX6_clear, Cond.code yX6_clear cX6_clear 1 (some .int), Cond.methodLink RX6 150 yX0_removeAllBut, Cond.instanceMethod yX0_removeAllBut, Cond.selects RX0 yX0_removeAllBut yX0_removeAllBut, Cond.code yX0_removeAllBut cX0_removeAllBut 4 (some .int), Cond.methodLink RX0 51 yX0_remove, Cond.methodLink RL 90 yX6_turnOver, Cond.instanceMethod yX6_turnOver, Cond.selects RX6 yX6_turnOver yX6_turnOver, Cond.code yX6_turnOver cX6_turnOver 1 (some .int), Cond.methodLink RX6 154 yX0_mirror, Cond.instanceMethod yX0_mirror]
def wsL_law0_r19 : List Cond := [Cond.selects RX0 yX0_mirror yX0_mirror, Cond.code yX0_mirror cX0_mirror 6 none, Cond.methodLink RX0 55 yX0_swapTurnedOver, Cond.instanceMethod yX0_swapTurnedOver, Cond.selects RX0 yX0_swapTurnedOver yX0_swapTurnedOver, Cond.code yX0_swapTurnedOver cX0_swapTurnedOver 4 none, Cond.static yX6_placingTurnedOver, Cond.code yX6_placingTurnedOver cX6_placingTurnedOver 4 (some .int), Cond.methodLink RL 93 yX6_addTile, Cond.instanceMethod yX6_addTile, Cond.selects RX6 yX6_addTile yX6_addTile, Cond.code yX6_addTile cX6_addTile 3 (some .int), Cond.methodLink RX6 81 yX0_addFaces, Cond.instanceMethod yX0_addFaces, Cond.selects RX0 yX0_addFaces yX0_addFaces, Cond.code yX0_addFaces cX0_addFaces 3 none, Cond.static yX6_lookOfFaces, Cond.code yX6_lookOfFaces cX6_lookOfFaces 6 (some .int), Cond.methodLink RX6 325 yX6_digit, Cond.static yX6_digit, Cond.code yX6_digit cX6_digit 4 (some .int), Cond.methodLink RL 96 yX6_dropTile, Cond.instanceMethod yX6_dropTile, Cond.selects RX6 yX6_dropTile yX6_dropTile]
def wsL_law0_r20 : List Cond := [Cond.code yX6_dropTile cX6_dropTile 1 (some .int), Cond.methodLink RL 99 yX6_solve, Cond.instanceMethod yX6_solve, Cond.selects RX6 yX6_solve yX6_solve, Cond.code yX6_solve cX6_solve 2 (some .int), Cond.fieldLink RX6 161 "TwoFacedTiles$Search" "found" "I", Cond.fieldLink RX6 166 "TwoFacedTiles$Search" "trial" "LTwoFacedTiles$Board;", Cond.methodLink RX6 169 yX0_copyFrom, Cond.methodLink RL 115 yX6_undo, Cond.instanceMethod yX6_undo, Cond.selects RX6 yX6_undo yX6_undo, Cond.code yX6_undo cX6_undo 1 (some .int), Cond.methodLink RX6 204 yX2_restore, Cond.instanceMethod yX2_restore, Cond.selects RX2 yX2_restore yX2_restore, Cond.code yX2_restore cX2_restore 2 none]
def wsL_law0 : List Cond := (wsL_law0_r1 ++ (wsL_law0_r2 ++ (wsL_law0_r3 ++ (wsL_law0_r4 ++ (wsL_law0_r5 ++ (wsL_law0_r6 ++ (wsL_law0_r7 ++ (wsL_law0_r8 ++ (wsL_law0_r9 ++ (wsL_law0_r10 ++ (wsL_law0_r11 ++ (wsL_law0_r12 ++ (wsL_law0_r13 ++ (wsL_law0_r14 ++ (wsL_law0_r15 ++ (wsL_law0_r16 ++ (wsL_law0_r17 ++ (wsL_law0_r18 ++ (wsL_law0_r19 ++ wsL_law0_r20))))))))))))))))))) ++ wsX60 ++ wsX00 ++ wsX20 ++ wsX50 ++ wsX30 ++ wsX40 ++ wsX10 ++ ([] : List Cond)
def wsL_law : List Cond := wsL_law0 ++ (vx_atS RX6 59 "java/lang/IllegalArgumentException" ["java/lang/RuntimeException", "java/lang/Exception"]).filter goodWord ++ (vx_atS RX6 216 "java/lang/IndexOutOfBoundsException" ["java/lang/RuntimeException", "java/lang/Exception"]).filter goodWord ++ (vx_atS RX6 80 "java/lang/IllegalStateException" ["java/lang/RuntimeException", "java/lang/Exception"]).filter goodWord
theorem dX0_init_0 : decode cX0_init 0 = .ok (.aload_n 0, 1) := by decide +kernel
theorem dX0_init_1 : decode cX0_init 1 = .ok (.invokespecial 3, 3) := by decide +kernel
theorem dX0_init_4 : decode cX0_init 4 = .ok (.aload_n 0, 1) := by decide +kernel
theorem dX0_init_5 : decode cX0_init 5 = .ok (.iconst 1, 1) := by decide +kernel
theorem dX0_init_6 : decode cX0_init 6 = .ok (.putfield 9, 3) := by decide +kernel
theorem dX0_init_9 : decode cX0_init 9 = .ok (.aload_n 0, 1) := by decide +kernel
theorem dX0_init_10 : decode cX0_init 10 = .ok (.iconst 1, 1) := by decide +kernel
theorem dX0_init_11 : decode cX0_init 11 = .ok (.putfield 15, 3) := by decide +kernel
theorem dX0_init_14 : decode cX0_init 14 = .ok (.aload_n 0, 1) := by decide +kernel
theorem dX0_init_15 : decode cX0_init 15 = .ok (.iconst 0, 1) := by decide +kernel
theorem dX0_init_16 : decode cX0_init 16 = .ok (.putfield 18, 3) := by decide +kernel
theorem dX0_init_19 : decode cX0_init 19 = .ok (.aload_n 0, 1) := by decide +kernel
theorem dX0_init_20 : decode cX0_init 20 = .ok (.iconst 0, 1) := by decide +kernel
theorem dX0_init_21 : decode cX0_init 21 = .ok (.putfield 21, 3) := by decide +kernel
theorem dX0_init_24 : decode cX0_init 24 = .ok (.aload_n 0, 1) := by decide +kernel
theorem dX0_init_25 : decode cX0_init 25 = .ok (.iconst 0, 1) := by decide +kernel
theorem dX0_init_26 : decode cX0_init 26 = .ok (.putfield 24, 3) := by decide +kernel
theorem dX0_init_29 : decode cX0_init 29 = .ok (.aload_n 0, 1) := by decide +kernel
theorem dX0_init_30 : decode cX0_init 30 = .ok (.bipush 12, 2) := by decide +kernel
theorem dX0_init_32 : decode cX0_init 32 = .ok (.newarray .int, 2) := by decide +kernel
theorem dX0_init_34 : decode cX0_init 34 = .ok (.putfield 27, 3) := by decide +kernel
theorem dX0_init_37 : decode cX0_init 37 = .ok (.aload_n 0, 1) := by decide +kernel
theorem dX0_init_38 : decode cX0_init 38 = .ok (.bipush 12, 2) := by decide +kernel
theorem dX0_init_40 : decode cX0_init 40 = .ok (.newarray .int, 2) := by decide +kernel
theorem dX0_init_42 : decode cX0_init 42 = .ok (.putfield 31, 3) := by decide +kernel
theorem dX0_init_45 : decode cX0_init 45 = .ok (.aload_n 0, 1) := by decide +kernel
theorem dX0_init_46 : decode cX0_init 46 = .ok (.bipush 96, 2) := by decide +kernel
theorem dX0_init_48 : decode cX0_init 48 = .ok (.newarray .int, 2) := by decide +kernel
theorem dX0_init_50 : decode cX0_init 50 = .ok (.putfield 34, 3) := by decide +kernel
theorem dX0_init_53 : decode cX0_init 53 = .ok (.return_, 1) := by decide +kernel
theorem dX0_copyFrom_0 : decode cX0_copyFrom 0 = .ok (.aload_n 0, 1) := by decide +kernel
theorem dX0_copyFrom_1 : decode cX0_copyFrom 1 = .ok (.aload_n 1, 1) := by decide +kernel
theorem dX0_copyFrom_2 : decode cX0_copyFrom 2 = .ok (.getfield 9, 3) := by decide +kernel
theorem dX0_copyFrom_5 : decode cX0_copyFrom 5 = .ok (.putfield 9, 3) := by decide +kernel
theorem dX0_copyFrom_8 : decode cX0_copyFrom 8 = .ok (.aload_n 0, 1) := by decide +kernel
theorem dX0_copyFrom_9 : decode cX0_copyFrom 9 = .ok (.aload_n 1, 1) := by decide +kernel
theorem dX0_copyFrom_10 : decode cX0_copyFrom 10 = .ok (.getfield 15, 3) := by decide +kernel
theorem dX0_copyFrom_13 : decode cX0_copyFrom 13 = .ok (.putfield 15, 3) := by decide +kernel
theorem dX0_copyFrom_16 : decode cX0_copyFrom 16 = .ok (.aload_n 0, 1) := by decide +kernel
theorem dX0_copyFrom_17 : decode cX0_copyFrom 17 = .ok (.aload_n 1, 1) := by decide +kernel
theorem dX0_copyFrom_18 : decode cX0_copyFrom 18 = .ok (.getfield 18, 3) := by decide +kernel
theorem dX0_copyFrom_21 : decode cX0_copyFrom 21 = .ok (.putfield 18, 3) := by decide +kernel
theorem dX0_copyFrom_24 : decode cX0_copyFrom 24 = .ok (.aload_n 0, 1) := by decide +kernel
theorem dX0_copyFrom_25 : decode cX0_copyFrom 25 = .ok (.aload_n 1, 1) := by decide +kernel
theorem dX0_copyFrom_26 : decode cX0_copyFrom 26 = .ok (.getfield 21, 3) := by decide +kernel
theorem dX0_copyFrom_29 : decode cX0_copyFrom 29 = .ok (.putfield 21, 3) := by decide +kernel
theorem dX0_copyFrom_32 : decode cX0_copyFrom 32 = .ok (.aload_n 0, 1) := by decide +kernel
theorem dX0_copyFrom_33 : decode cX0_copyFrom 33 = .ok (.aload_n 1, 1) := by decide +kernel
theorem dX0_copyFrom_34 : decode cX0_copyFrom 34 = .ok (.getfield 24, 3) := by decide +kernel
theorem dX0_copyFrom_37 : decode cX0_copyFrom 37 = .ok (.putfield 24, 3) := by decide +kernel
theorem dX0_copyFrom_40 : decode cX0_copyFrom 40 = .ok (.aload_n 1, 1) := by decide +kernel
theorem dX0_copyFrom_41 : decode cX0_copyFrom 41 = .ok (.getfield 27, 3) := by decide +kernel
theorem dX0_copyFrom_44 : decode cX0_copyFrom 44 = .ok (.iconst 0, 1) := by decide +kernel
theorem dX0_copyFrom_45 : decode cX0_copyFrom 45 = .ok (.aload_n 0, 1) := by decide +kernel
theorem dX0_copyFrom_46 : decode cX0_copyFrom 46 = .ok (.getfield 27, 3) := by decide +kernel
theorem dX0_copyFrom_49 : decode cX0_copyFrom 49 = .ok (.iconst 0, 1) := by decide +kernel
theorem dX0_copyFrom_50 : decode cX0_copyFrom 50 = .ok (.bipush 12, 2) := by decide +kernel
theorem dX0_copyFrom_52 : decode cX0_copyFrom 52 = .ok (.invokestatic 37, 3) := by decide +kernel
theorem dX0_copyFrom_55 : decode cX0_copyFrom 55 = .ok (.aload_n 1, 1) := by decide +kernel
theorem dX0_copyFrom_56 : decode cX0_copyFrom 56 = .ok (.getfield 31, 3) := by decide +kernel
theorem dX0_copyFrom_59 : decode cX0_copyFrom 59 = .ok (.iconst 0, 1) := by decide +kernel
theorem dX0_copyFrom_60 : decode cX0_copyFrom 60 = .ok (.aload_n 0, 1) := by decide +kernel
theorem dX0_copyFrom_61 : decode cX0_copyFrom 61 = .ok (.getfield 31, 3) := by decide +kernel
theorem dX0_copyFrom_64 : decode cX0_copyFrom 64 = .ok (.iconst 0, 1) := by decide +kernel
theorem dX0_copyFrom_65 : decode cX0_copyFrom 65 = .ok (.bipush 12, 2) := by decide +kernel
theorem dX0_copyFrom_67 : decode cX0_copyFrom 67 = .ok (.invokestatic 37, 3) := by decide +kernel
theorem dX0_copyFrom_70 : decode cX0_copyFrom 70 = .ok (.aload_n 1, 1) := by decide +kernel
theorem dX0_copyFrom_71 : decode cX0_copyFrom 71 = .ok (.getfield 34, 3) := by decide +kernel
theorem dX0_copyFrom_74 : decode cX0_copyFrom 74 = .ok (.iconst 0, 1) := by decide +kernel
theorem dX0_copyFrom_75 : decode cX0_copyFrom 75 = .ok (.aload_n 0, 1) := by decide +kernel
theorem dX0_copyFrom_76 : decode cX0_copyFrom 76 = .ok (.getfield 34, 3) := by decide +kernel
theorem dX0_copyFrom_79 : decode cX0_copyFrom 79 = .ok (.iconst 0, 1) := by decide +kernel
theorem dX0_copyFrom_80 : decode cX0_copyFrom 80 = .ok (.bipush 96, 2) := by decide +kernel
theorem dX0_copyFrom_82 : decode cX0_copyFrom 82 = .ok (.invokestatic 37, 3) := by decide +kernel
theorem dX0_copyFrom_85 : decode cX0_copyFrom 85 = .ok (.return_, 1) := by decide +kernel
theorem dX0_makeEmpty_0 : decode cX0_makeEmpty 0 = .ok (.aload_n 0, 1) := by decide +kernel
theorem dX0_makeEmpty_1 : decode cX0_makeEmpty 1 = .ok (.iload_n 1, 1) := by decide +kernel
theorem dX0_makeEmpty_2 : decode cX0_makeEmpty 2 = .ok (.putfield 9, 3) := by decide +kernel
theorem dX0_makeEmpty_5 : decode cX0_makeEmpty 5 = .ok (.aload_n 0, 1) := by decide +kernel
theorem dX0_makeEmpty_6 : decode cX0_makeEmpty 6 = .ok (.iload_n 2, 1) := by decide +kernel
theorem dX0_makeEmpty_7 : decode cX0_makeEmpty 7 = .ok (.putfield 15, 3) := by decide +kernel
theorem dX0_makeEmpty_10 : decode cX0_makeEmpty 10 = .ok (.aload_n 0, 1) := by decide +kernel
theorem dX0_makeEmpty_11 : decode cX0_makeEmpty 11 = .ok (.iconst 0, 1) := by decide +kernel
theorem dX0_makeEmpty_12 : decode cX0_makeEmpty 12 = .ok (.putfield 24, 3) := by decide +kernel
theorem dX0_makeEmpty_15 : decode cX0_makeEmpty 15 = .ok (.iconst 0, 1) := by decide +kernel
theorem dX0_makeEmpty_16 : decode cX0_makeEmpty 16 = .ok (.istore_n 3, 1) := by decide +kernel
theorem dX0_makeEmpty_17 : decode cX0_makeEmpty 17 = .ok (.iload_n 3, 1) := by decide +kernel
theorem dX0_makeEmpty_18 : decode cX0_makeEmpty 18 = .ok (.bipush 12, 2) := by decide +kernel
theorem dX0_makeEmpty_20 : decode cX0_makeEmpty 20 = .ok (.if_icmp .ge 16, 3) := by decide +kernel
theorem dX0_makeEmpty_23 : decode cX0_makeEmpty 23 = .ok (.aload_n 0, 1) := by decide +kernel
theorem dX0_makeEmpty_24 : decode cX0_makeEmpty 24 = .ok (.getfield 27, 3) := by decide +kernel
theorem dX0_makeEmpty_27 : decode cX0_makeEmpty 27 = .ok (.iload_n 3, 1) := by decide +kernel
theorem dX0_makeEmpty_28 : decode cX0_makeEmpty 28 = .ok (.iconst (-1), 1) := by decide +kernel
theorem dX0_makeEmpty_29 : decode cX0_makeEmpty 29 = .ok (.iastore, 1) := by decide +kernel
theorem dX0_makeEmpty_30 : decode cX0_makeEmpty 30 = .ok (.iinc 3 1, 3) := by decide +kernel
theorem dX0_makeEmpty_33 : decode cX0_makeEmpty 33 = .ok (.goto (-16), 3) := by decide +kernel
theorem dX0_makeEmpty_36 : decode cX0_makeEmpty 36 = .ok (.iconst 0, 1) := by decide +kernel
theorem dX0_makeEmpty_37 : decode cX0_makeEmpty 37 = .ok (.istore_n 3, 1) := by decide +kernel
theorem dX0_makeEmpty_38 : decode cX0_makeEmpty 38 = .ok (.iload_n 3, 1) := by decide +kernel
theorem dX0_makeEmpty_39 : decode cX0_makeEmpty 39 = .ok (.bipush 12, 2) := by decide +kernel
theorem dX0_makeEmpty_41 : decode cX0_makeEmpty 41 = .ok (.if_icmp .ge 16, 3) := by decide +kernel
theorem dX0_makeEmpty_44 : decode cX0_makeEmpty 44 = .ok (.aload_n 0, 1) := by decide +kernel
theorem dX0_makeEmpty_45 : decode cX0_makeEmpty 45 = .ok (.getfield 31, 3) := by decide +kernel
theorem dX0_makeEmpty_48 : decode cX0_makeEmpty 48 = .ok (.iload_n 3, 1) := by decide +kernel
theorem dX0_makeEmpty_49 : decode cX0_makeEmpty 49 = .ok (.iconst (-1), 1) := by decide +kernel
theorem dX0_makeEmpty_50 : decode cX0_makeEmpty 50 = .ok (.iastore, 1) := by decide +kernel
theorem dX0_makeEmpty_51 : decode cX0_makeEmpty 51 = .ok (.iinc 3 1, 3) := by decide +kernel
theorem dX0_makeEmpty_54 : decode cX0_makeEmpty 54 = .ok (.goto (-16), 3) := by decide +kernel
theorem dX0_makeEmpty_57 : decode cX0_makeEmpty 57 = .ok (.return_, 1) := by decide +kernel
theorem dX0_cells_0 : decode cX0_cells 0 = .ok (.aload_n 0, 1) := by decide +kernel
theorem dX0_cells_1 : decode cX0_cells 1 = .ok (.getfield 9, 3) := by decide +kernel
theorem dX0_cells_4 : decode cX0_cells 4 = .ok (.aload_n 0, 1) := by decide +kernel
theorem dX0_cells_5 : decode cX0_cells 5 = .ok (.getfield 15, 3) := by decide +kernel
theorem dX0_cells_8 : decode cX0_cells 8 = .ok (.imul, 1) := by decide +kernel
theorem dX0_cells_9 : decode cX0_cells 9 = .ok (.ireturn, 1) := by decide +kernel
set_option maxRecDepth 20000 in
theorem ggX0_hasCell_X0_cells : GoodIn wsX0_hasCell wsX0_cells := goodIn_r _ [5, 6, 7, 8, 9, 10, 11, 12, 13, 14, 15] (by decide +kernel) (by decide +kernel)
set_option maxRecDepth 20000 in
theorem gX0_hasCell_X0_cells : GoodIn wsX0_hasCell (wsV RX0 43 RX0 yX0_cells wsX0_cells) := goodIn_app (goodIn_of _ (by decide +kernel)) ggX0_hasCell_X0_cells
theorem dX0_hasCell_0 : decode cX0_hasCell 0 = .ok (.iload_n 1, 1) := by decide +kernel
theorem dX0_hasCell_1 : decode cX0_hasCell 1 = .ok (.ifCond .lt 15, 3) := by decide +kernel
theorem dX0_hasCell_4 : decode cX0_hasCell 4 = .ok (.iload_n 1, 1) := by decide +kernel
theorem dX0_hasCell_5 : decode cX0_hasCell 5 = .ok (.aload_n 0, 1) := by decide +kernel
theorem dX0_hasCell_6 : decode cX0_hasCell 6 = .ok (.invokevirtual 43, 3) := by decide +kernel
theorem dX0_hasCell_9 : decode cX0_hasCell 9 = .ok (.if_icmp .ge 7, 3) := by decide +kernel
theorem dX0_hasCell_12 : decode cX0_hasCell 12 = .ok (.iconst 1, 1) := by decide +kernel
theorem dX0_hasCell_13 : decode cX0_hasCell 13 = .ok (.goto 4, 3) := by decide +kernel
theorem dX0_hasCell_16 : decode cX0_hasCell 16 = .ok (.iconst 0, 1) := by decide +kernel
theorem dX0_hasCell_17 : decode cX0_hasCell 17 = .ok (.ireturn, 1) := by decide +kernel
theorem dX0_hasPlacing_0 : decode cX0_hasPlacing 0 = .ok (.iload_n 1, 1) := by decide +kernel
theorem dX0_hasPlacing_1 : decode cX0_hasPlacing 1 = .ok (.ifCond .lt 18, 3) := by decide +kernel
theorem dX0_hasPlacing_4 : decode cX0_hasPlacing 4 = .ok (.iload_n 1, 1) := by decide +kernel
theorem dX0_hasPlacing_5 : decode cX0_hasPlacing 5 = .ok (.bipush 8, 2) := by decide +kernel
theorem dX0_hasPlacing_7 : decode cX0_hasPlacing 7 = .ok (.aload_n 0, 1) := by decide +kernel
theorem dX0_hasPlacing_8 : decode cX0_hasPlacing 8 = .ok (.getfield 21, 3) := by decide +kernel
theorem dX0_hasPlacing_11 : decode cX0_hasPlacing 11 = .ok (.imul, 1) := by decide +kernel
theorem dX0_hasPlacing_12 : decode cX0_hasPlacing 12 = .ok (.if_icmp .ge 7, 3) := by decide +kernel
theorem dX0_hasPlacing_15 : decode cX0_hasPlacing 15 = .ok (.iconst 1, 1) := by decide +kernel
theorem dX0_hasPlacing_16 : decode cX0_hasPlacing 16 = .ok (.goto 4, 3) := by decide +kernel
theorem dX0_hasPlacing_19 : decode cX0_hasPlacing 19 = .ok (.iconst 0, 1) := by decide +kernel
theorem dX0_hasPlacing_20 : decode cX0_hasPlacing 20 = .ok (.ireturn, 1) := by decide +kernel
theorem dX0_isEmpty_0 : decode cX0_isEmpty 0 = .ok (.aload_n 0, 1) := by decide +kernel
theorem dX0_isEmpty_1 : decode cX0_isEmpty 1 = .ok (.getfield 27, 3) := by decide +kernel
theorem dX0_isEmpty_4 : decode cX0_isEmpty 4 = .ok (.iload_n 1, 1) := by decide +kernel
theorem dX0_isEmpty_5 : decode cX0_isEmpty 5 = .ok (.iaload, 1) := by decide +kernel
theorem dX0_isEmpty_6 : decode cX0_isEmpty 6 = .ok (.iconst (-1), 1) := by decide +kernel
theorem dX0_isEmpty_7 : decode cX0_isEmpty 7 = .ok (.if_icmp .ne 7, 3) := by decide +kernel
theorem dX0_isEmpty_10 : decode cX0_isEmpty 10 = .ok (.iconst 1, 1) := by decide +kernel
theorem dX0_isEmpty_11 : decode cX0_isEmpty 11 = .ok (.goto 4, 3) := by decide +kernel
theorem dX0_isEmpty_14 : decode cX0_isEmpty 14 = .ok (.iconst 0, 1) := by decide +kernel
theorem dX0_isEmpty_15 : decode cX0_isEmpty 15 = .ok (.ireturn, 1) := by decide +kernel
theorem dX0_isFixed_0 : decode cX0_isFixed 0 = .ok (.aload_n 0, 1) := by decide +kernel
theorem dX0_isFixed_1 : decode cX0_isFixed 1 = .ok (.getfield 24, 3) := by decide +kernel
theorem dX0_isFixed_4 : decode cX0_isFixed 4 = .ok (.iload_n 1, 1) := by decide +kernel
theorem dX0_isFixed_5 : decode cX0_isFixed 5 = .ok (.ishr, 1) := by decide +kernel
theorem dX0_isFixed_6 : decode cX0_isFixed 6 = .ok (.iconst 1, 1) := by decide +kernel
theorem dX0_isFixed_7 : decode cX0_isFixed 7 = .ok (.iand, 1) := by decide +kernel
theorem dX0_isFixed_8 : decode cX0_isFixed 8 = .ok (.iconst 1, 1) := by decide +kernel
theorem dX0_isFixed_9 : decode cX0_isFixed 9 = .ok (.if_icmp .ne 7, 3) := by decide +kernel
theorem dX0_isFixed_12 : decode cX0_isFixed 12 = .ok (.iconst 1, 1) := by decide +kernel
theorem dX0_isFixed_13 : decode cX0_isFixed 13 = .ok (.goto 4, 3) := by decide +kernel
theorem dX0_isFixed_16 : decode cX0_isFixed 16 = .ok (.iconst 0, 1) := by decide +kernel
theorem dX0_isFixed_17 : decode cX0_isFixed 17 = .ok (.ireturn, 1) := by decide +kernel
theorem dX0_isLaid_0 : decode cX0_isLaid 0 = .ok (.aload_n 0, 1) := by decide +kernel
theorem dX0_isLaid_1 : decode cX0_isLaid 1 = .ok (.getfield 31, 3) := by decide +kernel
theorem dX0_isLaid_4 : decode cX0_isLaid 4 = .ok (.iload_n 1, 1) := by decide +kernel
theorem dX0_isLaid_5 : decode cX0_isLaid 5 = .ok (.iaload, 1) := by decide +kernel
theorem dX0_isLaid_6 : decode cX0_isLaid 6 = .ok (.iconst (-1), 1) := by decide +kernel
theorem dX0_isLaid_7 : decode cX0_isLaid 7 = .ok (.if_icmp .eq 7, 3) := by decide +kernel
theorem dX0_isLaid_10 : decode cX0_isLaid 10 = .ok (.iconst 1, 1) := by decide +kernel
theorem dX0_isLaid_11 : decode cX0_isLaid 11 = .ok (.goto 4, 3) := by decide +kernel
theorem dX0_isLaid_14 : decode cX0_isLaid 14 = .ok (.iconst 0, 1) := by decide +kernel
theorem dX0_isLaid_15 : decode cX0_isLaid 15 = .ok (.ireturn, 1) := by decide +kernel
theorem dX0_lookIn_0 : decode cX0_lookIn 0 = .ok (.aload_n 0, 1) := by decide +kernel
theorem dX0_lookIn_1 : decode cX0_lookIn 1 = .ok (.getfield 34, 3) := by decide +kernel
theorem dX0_lookIn_4 : decode cX0_lookIn 4 = .ok (.aload_n 0, 1) := by decide +kernel
theorem dX0_lookIn_5 : decode cX0_lookIn 5 = .ok (.getfield 27, 3) := by decide +kernel
theorem dX0_lookIn_8 : decode cX0_lookIn 8 = .ok (.iload_n 1, 1) := by decide +kernel
theorem dX0_lookIn_9 : decode cX0_lookIn 9 = .ok (.iaload, 1) := by decide +kernel
theorem dX0_lookIn_10 : decode cX0_lookIn 10 = .ok (.iaload, 1) := by decide +kernel
theorem dX0_lookIn_11 : decode cX0_lookIn 11 = .ok (.ireturn, 1) := by decide +kernel
set_option maxRecDepth 20000 in
theorem ggX0_emptyCells_X0_cells : GoodIn wsX0_emptyCells wsX0_cells := goodIn_r _ [5, 6, 7, 13, 14, 15, 16, 17, 18, 19, 20] (by decide +kernel) (by decide +kernel)
set_option maxRecDepth 20000 in
theorem gX0_emptyCells_X0_cells : GoodIn wsX0_emptyCells (wsV RX0 43 RX0 yX0_cells wsX0_cells) := goodIn_app (goodIn_of _ (by decide +kernel)) ggX0_emptyCells_X0_cells
set_option maxRecDepth 20000 in
theorem ggX0_emptyCells_X0_isEmpty : GoodIn wsX0_emptyCells wsX0_isEmpty := goodIn_r _ [11, 12, 13, 14, 15, 16, 17, 18, 19, 20] (by decide +kernel) (by decide +kernel)
set_option maxRecDepth 20000 in
theorem gX0_emptyCells_X0_isEmpty : GoodIn wsX0_emptyCells (wsV RX0 47 RX0 yX0_isEmpty wsX0_isEmpty) := goodIn_app (goodIn_of _ (by decide +kernel)) ggX0_emptyCells_X0_isEmpty
theorem dX0_emptyCells_0 : decode cX0_emptyCells 0 = .ok (.iconst 0, 1) := by decide +kernel
theorem dX0_emptyCells_1 : decode cX0_emptyCells 1 = .ok (.istore_n 1, 1) := by decide +kernel
theorem dX0_emptyCells_2 : decode cX0_emptyCells 2 = .ok (.iconst 0, 1) := by decide +kernel
theorem dX0_emptyCells_3 : decode cX0_emptyCells 3 = .ok (.istore_n 2, 1) := by decide +kernel
theorem dX0_emptyCells_4 : decode cX0_emptyCells 4 = .ok (.iload_n 2, 1) := by decide +kernel
theorem dX0_emptyCells_5 : decode cX0_emptyCells 5 = .ok (.aload_n 0, 1) := by decide +kernel
theorem dX0_emptyCells_6 : decode cX0_emptyCells 6 = .ok (.invokevirtual 43, 3) := by decide +kernel
theorem dX0_emptyCells_9 : decode cX0_emptyCells 9 = .ok (.if_icmp .ge 20, 3) := by decide +kernel
theorem dX0_emptyCells_12 : decode cX0_emptyCells 12 = .ok (.aload_n 0, 1) := by decide +kernel
theorem dX0_emptyCells_13 : decode cX0_emptyCells 13 = .ok (.iload_n 2, 1) := by decide +kernel
theorem dX0_emptyCells_14 : decode cX0_emptyCells 14 = .ok (.invokevirtual 47, 3) := by decide +kernel
theorem dX0_emptyCells_17 : decode cX0_emptyCells 17 = .ok (.ifCond .eq 6, 3) := by decide +kernel
theorem dX0_emptyCells_20 : decode cX0_emptyCells 20 = .ok (.iinc 1 1, 3) := by decide +kernel
theorem dX0_emptyCells_23 : decode cX0_emptyCells 23 = .ok (.iinc 2 1, 3) := by decide +kernel
theorem dX0_emptyCells_26 : decode cX0_emptyCells 26 = .ok (.goto (-22), 3) := by decide +kernel
theorem dX0_emptyCells_29 : decode cX0_emptyCells 29 = .ok (.iload_n 1, 1) := by decide +kernel
theorem dX0_emptyCells_30 : decode cX0_emptyCells 30 = .ok (.ireturn, 1) := by decide +kernel
set_option maxRecDepth 20000 in
theorem ggX0_neighbor_X0_cells : GoodIn wsX0_neighbor wsX0_cells := goodIn_r _ [6, 7, 1, 8, 9, 10, 11, 12, 13, 14, 15] (by decide +kernel) (by decide +kernel)
set_option maxRecDepth 20000 in
theorem gX0_neighbor_X0_cells : GoodIn wsX0_neighbor (wsV RX0 43 RX0 yX0_cells wsX0_cells) := goodIn_app (goodIn_of _ (by decide +kernel)) ggX0_neighbor_X0_cells
theorem dX0_neighbor_0 : decode cX0_neighbor 0 = .ok (.aload_n 0, 1) := by decide +kernel
theorem dX0_neighbor_1 : decode cX0_neighbor 1 = .ok (.getfield 15, 3) := by decide +kernel
theorem dX0_neighbor_4 : decode cX0_neighbor 4 = .ok (.iconst 1, 1) := by decide +kernel
theorem dX0_neighbor_5 : decode cX0_neighbor 5 = .ok (.if_icmp .ge 7, 3) := by decide +kernel
theorem dX0_neighbor_8 : decode cX0_neighbor 8 = .ok (.iconst 0, 1) := by decide +kernel
theorem dX0_neighbor_9 : decode cX0_neighbor 9 = .ok (.goto 9, 3) := by decide +kernel
theorem dX0_neighbor_12 : decode cX0_neighbor 12 = .ok (.iload_n 1, 1) := by decide +kernel
theorem dX0_neighbor_13 : decode cX0_neighbor 13 = .ok (.aload_n 0, 1) := by decide +kernel
theorem dX0_neighbor_14 : decode cX0_neighbor 14 = .ok (.getfield 15, 3) := by decide +kernel
theorem dX0_neighbor_17 : decode cX0_neighbor 17 = .ok (.irem, 1) := by decide +kernel
theorem dX0_neighbor_18 : decode cX0_neighbor 18 = .ok (.istore_n 3, 1) := by decide +kernel
theorem dX0_neighbor_19 : decode cX0_neighbor 19 = .ok (.iload_n 2, 1) := by decide +kernel
theorem dX0_neighbor_20 : decode cX0_neighbor 20 = .ok (.tableswitch 89 0 2 #[28, 47, 65], 28) := by decide +kernel
theorem dX0_neighbor_48 : decode cX0_neighbor 48 = .ok (.iload_n 1, 1) := by decide +kernel
theorem dX0_neighbor_49 : decode cX0_neighbor 49 = .ok (.aload_n 0, 1) := by decide +kernel
theorem dX0_neighbor_50 : decode cX0_neighbor 50 = .ok (.getfield 15, 3) := by decide +kernel
theorem dX0_neighbor_53 : decode cX0_neighbor 53 = .ok (.if_icmp .lt 12, 3) := by decide +kernel
theorem dX0_neighbor_56 : decode cX0_neighbor 56 = .ok (.iload_n 1, 1) := by decide +kernel
theorem dX0_neighbor_57 : decode cX0_neighbor 57 = .ok (.aload_n 0, 1) := by decide +kernel
theorem dX0_neighbor_58 : decode cX0_neighbor 58 = .ok (.getfield 15, 3) := by decide +kernel
theorem dX0_neighbor_61 : decode cX0_neighbor 61 = .ok (.isub, 1) := by decide +kernel
theorem dX0_neighbor_62 : decode cX0_neighbor 62 = .ok (.goto 4, 3) := by decide +kernel
theorem dX0_neighbor_65 : decode cX0_neighbor 65 = .ok (.iconst (-1), 1) := by decide +kernel
theorem dX0_neighbor_66 : decode cX0_neighbor 66 = .ok (.ireturn, 1) := by decide +kernel
theorem dX0_neighbor_67 : decode cX0_neighbor 67 = .ok (.iload_n 3, 1) := by decide +kernel
theorem dX0_neighbor_68 : decode cX0_neighbor 68 = .ok (.iconst 1, 1) := by decide +kernel
theorem dX0_neighbor_69 : decode cX0_neighbor 69 = .ok (.iadd, 1) := by decide +kernel
theorem dX0_neighbor_70 : decode cX0_neighbor 70 = .ok (.aload_n 0, 1) := by decide +kernel
theorem dX0_neighbor_71 : decode cX0_neighbor 71 = .ok (.getfield 15, 3) := by decide +kernel
theorem dX0_neighbor_74 : decode cX0_neighbor 74 = .ok (.if_icmp .ge 9, 3) := by decide +kernel
theorem dX0_neighbor_77 : decode cX0_neighbor 77 = .ok (.iload_n 1, 1) := by decide +kernel
theorem dX0_neighbor_78 : decode cX0_neighbor 78 = .ok (.iconst 1, 1) := by decide +kernel
theorem dX0_neighbor_79 : decode cX0_neighbor 79 = .ok (.iadd, 1) := by decide +kernel
theorem dX0_neighbor_80 : decode cX0_neighbor 80 = .ok (.goto 4, 3) := by decide +kernel
theorem dX0_neighbor_83 : decode cX0_neighbor 83 = .ok (.iconst (-1), 1) := by decide +kernel
theorem dX0_neighbor_84 : decode cX0_neighbor 84 = .ok (.ireturn, 1) := by decide +kernel
theorem dX0_neighbor_85 : decode cX0_neighbor 85 = .ok (.iload_n 1, 1) := by decide +kernel
theorem dX0_neighbor_86 : decode cX0_neighbor 86 = .ok (.aload_n 0, 1) := by decide +kernel
theorem dX0_neighbor_87 : decode cX0_neighbor 87 = .ok (.getfield 15, 3) := by decide +kernel
theorem dX0_neighbor_90 : decode cX0_neighbor 90 = .ok (.iadd, 1) := by decide +kernel
theorem dX0_neighbor_91 : decode cX0_neighbor 91 = .ok (.aload_n 0, 1) := by decide +kernel
theorem dX0_neighbor_92 : decode cX0_neighbor 92 = .ok (.invokevirtual 43, 3) := by decide +kernel
theorem dX0_neighbor_95 : decode cX0_neighbor 95 = .ok (.if_icmp .ge 12, 3) := by decide +kernel
theorem dX0_neighbor_98 : decode cX0_neighbor 98 = .ok (.iload_n 1, 1) := by decide +kernel
theorem dX0_neighbor_99 : decode cX0_neighbor 99 = .ok (.aload_n 0, 1) := by decide +kernel
theorem dX0_neighbor_100 : decode cX0_neighbor 100 = .ok (.getfield 15, 3) := by decide +kernel
theorem dX0_neighbor_103 : decode cX0_neighbor 103 = .ok (.iadd, 1) := by decide +kernel
theorem dX0_neighbor_104 : decode cX0_neighbor 104 = .ok (.goto 4, 3) := by decide +kernel
theorem dX0_neighbor_107 : decode cX0_neighbor 107 = .ok (.iconst (-1), 1) := by decide +kernel
theorem dX0_neighbor_108 : decode cX0_neighbor 108 = .ok (.ireturn, 1) := by decide +kernel
theorem dX0_neighbor_109 : decode cX0_neighbor 109 = .ok (.iload_n 3, 1) := by decide +kernel
theorem dX0_neighbor_110 : decode cX0_neighbor 110 = .ok (.ifCond .le 9, 3) := by decide +kernel
theorem dX0_neighbor_113 : decode cX0_neighbor 113 = .ok (.iload_n 1, 1) := by decide +kernel
theorem dX0_neighbor_114 : decode cX0_neighbor 114 = .ok (.iconst 1, 1) := by decide +kernel
theorem dX0_neighbor_115 : decode cX0_neighbor 115 = .ok (.isub, 1) := by decide +kernel
theorem dX0_neighbor_116 : decode cX0_neighbor 116 = .ok (.goto 4, 3) := by decide +kernel
theorem dX0_neighbor_119 : decode cX0_neighbor 119 = .ok (.iconst (-1), 1) := by decide +kernel
theorem dX0_neighbor_120 : decode cX0_neighbor 120 = .ok (.ireturn, 1) := by decide +kernel
theorem dX0_put_0 : decode cX0_put 0 = .ok (.aload_n 0, 1) := by decide +kernel
theorem dX0_put_1 : decode cX0_put 1 = .ok (.getfield 27, 3) := by decide +kernel
theorem dX0_put_4 : decode cX0_put 4 = .ok (.iload_n 1, 1) := by decide +kernel
theorem dX0_put_5 : decode cX0_put 5 = .ok (.iload_n 2, 1) := by decide +kernel
theorem dX0_put_6 : decode cX0_put 6 = .ok (.iastore, 1) := by decide +kernel
theorem dX0_put_7 : decode cX0_put 7 = .ok (.aload_n 0, 1) := by decide +kernel
theorem dX0_put_8 : decode cX0_put 8 = .ok (.getfield 31, 3) := by decide +kernel
theorem dX0_put_11 : decode cX0_put 11 = .ok (.iload_n 2, 1) := by decide +kernel
theorem dX0_put_12 : decode cX0_put 12 = .ok (.bipush 8, 2) := by decide +kernel
theorem dX0_put_14 : decode cX0_put 14 = .ok (.idiv, 1) := by decide +kernel
theorem dX0_put_15 : decode cX0_put 15 = .ok (.iload_n 1, 1) := by decide +kernel
theorem dX0_put_16 : decode cX0_put 16 = .ok (.iastore, 1) := by decide +kernel
theorem dX0_put_17 : decode cX0_put 17 = .ok (.return_, 1) := by decide +kernel
theorem dX0_remove_0 : decode cX0_remove 0 = .ok (.aload_n 0, 1) := by decide +kernel
theorem dX0_remove_1 : decode cX0_remove 1 = .ok (.getfield 31, 3) := by decide +kernel
theorem dX0_remove_4 : decode cX0_remove 4 = .ok (.aload_n 0, 1) := by decide +kernel
theorem dX0_remove_5 : decode cX0_remove 5 = .ok (.getfield 27, 3) := by decide +kernel
theorem dX0_remove_8 : decode cX0_remove 8 = .ok (.iload_n 1, 1) := by decide +kernel
theorem dX0_remove_9 : decode cX0_remove 9 = .ok (.iaload, 1) := by decide +kernel
theorem dX0_remove_10 : decode cX0_remove 10 = .ok (.bipush 8, 2) := by decide +kernel
theorem dX0_remove_12 : decode cX0_remove 12 = .ok (.idiv, 1) := by decide +kernel
theorem dX0_remove_13 : decode cX0_remove 13 = .ok (.iconst (-1), 1) := by decide +kernel
theorem dX0_remove_14 : decode cX0_remove 14 = .ok (.iastore, 1) := by decide +kernel
theorem dX0_remove_15 : decode cX0_remove 15 = .ok (.aload_n 0, 1) := by decide +kernel
theorem dX0_remove_16 : decode cX0_remove 16 = .ok (.getfield 27, 3) := by decide +kernel
theorem dX0_remove_19 : decode cX0_remove 19 = .ok (.iload_n 1, 1) := by decide +kernel
theorem dX0_remove_20 : decode cX0_remove 20 = .ok (.iconst (-1), 1) := by decide +kernel
theorem dX0_remove_21 : decode cX0_remove 21 = .ok (.iastore, 1) := by decide +kernel
theorem dX0_remove_22 : decode cX0_remove 22 = .ok (.return_, 1) := by decide +kernel
set_option maxRecDepth 20000 in
theorem ggX0_removeAllBut_X0_cells : GoodIn wsX0_removeAllBut wsX0_cells := goodIn_r _ [5, 6, 7, 18, 19, 20, 21, 22, 23, 24, 25] (by decide +kernel) (by decide +kernel)
set_option maxRecDepth 20000 in
theorem gX0_removeAllBut_X0_cells : GoodIn wsX0_removeAllBut (wsV RX0 43 RX0 yX0_cells wsX0_cells) := goodIn_app (goodIn_of _ (by decide +kernel)) ggX0_removeAllBut_X0_cells
set_option maxRecDepth 20000 in
theorem ggX0_removeAllBut_X0_isEmpty : GoodIn wsX0_removeAllBut wsX0_isEmpty := goodIn_r _ [11, 12, 18, 19, 20, 21, 22, 23, 24, 25] (by decide +kernel) (by decide +kernel)
set_option maxRecDepth 20000 in
theorem gX0_removeAllBut_X0_isEmpty : GoodIn wsX0_removeAllBut (wsV RX0 47 RX0 yX0_isEmpty wsX0_isEmpty) := goodIn_app (goodIn_of _ (by decide +kernel)) ggX0_removeAllBut_X0_isEmpty
set_option maxRecDepth 20000 in
theorem ggX0_removeAllBut_X0_remove : GoodIn wsX0_removeAllBut wsX0_remove := goodIn_r _ [16, 17, 12, 18, 19, 20, 21, 22, 23, 24, 25] (by decide +kernel) (by decide +kernel)
set_option maxRecDepth 20000 in
theorem gX0_removeAllBut_X0_remove : GoodIn wsX0_removeAllBut (wsV RX0 51 RX0 yX0_remove wsX0_remove) := goodIn_app (goodIn_of _ (by decide +kernel)) ggX0_removeAllBut_X0_remove
theorem dX0_removeAllBut_0 : decode cX0_removeAllBut 0 = .ok (.iconst 0, 1) := by decide +kernel
theorem dX0_removeAllBut_1 : decode cX0_removeAllBut 1 = .ok (.istore_n 2, 1) := by decide +kernel
theorem dX0_removeAllBut_2 : decode cX0_removeAllBut 2 = .ok (.iconst 0, 1) := by decide +kernel
theorem dX0_removeAllBut_3 : decode cX0_removeAllBut 3 = .ok (.istore_n 3, 1) := by decide +kernel
theorem dX0_removeAllBut_4 : decode cX0_removeAllBut 4 = .ok (.iload_n 3, 1) := by decide +kernel
theorem dX0_removeAllBut_5 : decode cX0_removeAllBut 5 = .ok (.aload_n 0, 1) := by decide +kernel
theorem dX0_removeAllBut_6 : decode cX0_removeAllBut 6 = .ok (.invokevirtual 43, 3) := by decide +kernel
theorem dX0_removeAllBut_9 : decode cX0_removeAllBut 9 = .ok (.if_icmp .ge 33, 3) := by decide +kernel
theorem dX0_removeAllBut_12 : decode cX0_removeAllBut 12 = .ok (.aload_n 0, 1) := by decide +kernel
theorem dX0_removeAllBut_13 : decode cX0_removeAllBut 13 = .ok (.iload_n 3, 1) := by decide +kernel
theorem dX0_removeAllBut_14 : decode cX0_removeAllBut 14 = .ok (.invokevirtual 47, 3) := by decide +kernel
theorem dX0_removeAllBut_17 : decode cX0_removeAllBut 17 = .ok (.ifCond .ne 19, 3) := by decide +kernel
theorem dX0_removeAllBut_20 : decode cX0_removeAllBut 20 = .ok (.iload_n 1, 1) := by decide +kernel
theorem dX0_removeAllBut_21 : decode cX0_removeAllBut 21 = .ok (.iload_n 3, 1) := by decide +kernel
theorem dX0_removeAllBut_22 : decode cX0_removeAllBut 22 = .ok (.ishr, 1) := by decide +kernel
theorem dX0_removeAllBut_23 : decode cX0_removeAllBut 23 = .ok (.iconst 1, 1) := by decide +kernel
theorem dX0_removeAllBut_24 : decode cX0_removeAllBut 24 = .ok (.iand, 1) := by decide +kernel
theorem dX0_removeAllBut_25 : decode cX0_removeAllBut 25 = .ok (.ifCond .ne 11, 3) := by decide +kernel
theorem dX0_removeAllBut_28 : decode cX0_removeAllBut 28 = .ok (.aload_n 0, 1) := by decide +kernel
theorem dX0_removeAllBut_29 : decode cX0_removeAllBut 29 = .ok (.iload_n 3, 1) := by decide +kernel
theorem dX0_removeAllBut_30 : decode cX0_removeAllBut 30 = .ok (.invokevirtual 51, 3) := by decide +kernel
theorem dX0_removeAllBut_33 : decode cX0_removeAllBut 33 = .ok (.iinc 2 1, 3) := by decide +kernel
theorem dX0_removeAllBut_36 : decode cX0_removeAllBut 36 = .ok (.iinc 3 1, 3) := by decide +kernel
theorem dX0_removeAllBut_39 : decode cX0_removeAllBut 39 = .ok (.goto (-35), 3) := by decide +kernel
theorem dX0_removeAllBut_42 : decode cX0_removeAllBut 42 = .ok (.iload_n 2, 1) := by decide +kernel
theorem dX0_removeAllBut_43 : decode cX0_removeAllBut 43 = .ok (.ireturn, 1) := by decide +kernel
set_option maxRecDepth 20000 in
theorem ggX0_mirror_X0_swapTurnedOver : GoodIn wsX0_mirror wsX0_swapTurnedOver := goodIn_r _ [10, 5, 11, 12, 13, 22, 23, 24, 25, 26, 27, 28, 29] (by decide +kernel) (by decide +kernel)
set_option maxRecDepth 20000 in
theorem gX0_mirror_X0_swapTurnedOver : GoodIn wsX0_mirror (wsV RX0 55 RX0 yX0_swapTurnedOver wsX0_swapTurnedOver) := goodIn_app (goodIn_of _ (by decide +kernel)) ggX0_mirror_X0_swapTurnedOver
set_option maxRecDepth 20000 in
theorem ggX0_mirror_X0_cells : GoodIn wsX0_mirror wsX0_cells := goodIn_r _ [17, 2, 3, 22, 23, 24, 25, 26, 27, 28, 29] (by decide +kernel) (by decide +kernel)
set_option maxRecDepth 20000 in
theorem gX0_mirror_X0_cells : GoodIn wsX0_mirror (wsV RX0 43 RX0 yX0_cells wsX0_cells) := goodIn_app (goodIn_of _ (by decide +kernel)) ggX0_mirror_X0_cells
set_option maxRecDepth 20000 in
theorem ggX0_mirror_X0_isEmpty : GoodIn wsX0_mirror wsX0_isEmpty := goodIn_r _ [21, 5, 22, 23, 24, 25, 26, 27, 28, 29] (by decide +kernel) (by decide +kernel)
set_option maxRecDepth 20000 in
theorem gX0_mirror_X0_isEmpty : GoodIn wsX0_mirror (wsV RX0 47 RX0 yX0_isEmpty wsX0_isEmpty) := goodIn_app (goodIn_of _ (by decide +kernel)) ggX0_mirror_X0_isEmpty
theorem dX0_mirror_0 : decode cX0_mirror 0 = .ok (.aload_n 0, 1) := by decide +kernel
theorem dX0_mirror_1 : decode cX0_mirror 1 = .ok (.getfield 24, 3) := by decide +kernel
theorem dX0_mirror_4 : decode cX0_mirror 4 = .ok (.istore_n 1, 1) := by decide +kernel
theorem dX0_mirror_5 : decode cX0_mirror 5 = .ok (.aload_n 0, 1) := by decide +kernel
theorem dX0_mirror_6 : decode cX0_mirror 6 = .ok (.iconst 0, 1) := by decide +kernel
theorem dX0_mirror_7 : decode cX0_mirror 7 = .ok (.putfield 24, 3) := by decide +kernel
theorem dX0_mirror_10 : decode cX0_mirror 10 = .ok (.iconst 0, 1) := by decide +kernel
theorem dX0_mirror_11 : decode cX0_mirror 11 = .ok (.istore_n 2, 1) := by decide +kernel
theorem dX0_mirror_12 : decode cX0_mirror 12 = .ok (.iload_n 2, 1) := by decide +kernel
theorem dX0_mirror_13 : decode cX0_mirror 13 = .ok (.aload_n 0, 1) := by decide +kernel
theorem dX0_mirror_14 : decode cX0_mirror 14 = .ok (.getfield 9, 3) := by decide +kernel
theorem dX0_mirror_17 : decode cX0_mirror 17 = .ok (.if_icmp .ge 85, 3) := by decide +kernel
theorem dX0_mirror_20 : decode cX0_mirror 20 = .ok (.iconst 0, 1) := by decide +kernel
theorem dX0_mirror_21 : decode cX0_mirror 21 = .ok (.istore_n 3, 1) := by decide +kernel
theorem dX0_mirror_22 : decode cX0_mirror 22 = .ok (.iload_n 3, 1) := by decide +kernel
theorem dX0_mirror_23 : decode cX0_mirror 23 = .ok (.aload_n 0, 1) := by decide +kernel
theorem dX0_mirror_24 : decode cX0_mirror 24 = .ok (.getfield 15, 3) := by decide +kernel
theorem dX0_mirror_27 : decode cX0_mirror 27 = .ok (.if_icmp .ge 69, 3) := by decide +kernel
theorem dX0_mirror_30 : decode cX0_mirror 30 = .ok (.iload_n 2, 1) := by decide +kernel
theorem dX0_mirror_31 : decode cX0_mirror 31 = .ok (.aload_n 0, 1) := by decide +kernel
theorem dX0_mirror_32 : decode cX0_mirror 32 = .ok (.getfield 15, 3) := by decide +kernel
theorem dX0_mirror_35 : decode cX0_mirror 35 = .ok (.imul, 1) := by decide +kernel
theorem dX0_mirror_36 : decode cX0_mirror 36 = .ok (.iload_n 3, 1) := by decide +kernel
theorem dX0_mirror_37 : decode cX0_mirror 37 = .ok (.iadd, 1) := by decide +kernel
theorem dX0_mirror_38 : decode cX0_mirror 38 = .ok (.istore 4, 2) := by decide +kernel
theorem dX0_mirror_40 : decode cX0_mirror 40 = .ok (.iload_n 2, 1) := by decide +kernel
theorem dX0_mirror_41 : decode cX0_mirror 41 = .ok (.aload_n 0, 1) := by decide +kernel
theorem dX0_mirror_42 : decode cX0_mirror 42 = .ok (.getfield 15, 3) := by decide +kernel
theorem dX0_mirror_45 : decode cX0_mirror 45 = .ok (.imul, 1) := by decide +kernel
theorem dX0_mirror_46 : decode cX0_mirror 46 = .ok (.aload_n 0, 1) := by decide +kernel
theorem dX0_mirror_47 : decode cX0_mirror 47 = .ok (.getfield 15, 3) := by decide +kernel
theorem dX0_mirror_50 : decode cX0_mirror 50 = .ok (.iadd, 1) := by decide +kernel
theorem dX0_mirror_51 : decode cX0_mirror 51 = .ok (.iconst 1, 1) := by decide +kernel
theorem dX0_mirror_52 : decode cX0_mirror 52 = .ok (.isub, 1) := by decide +kernel
theorem dX0_mirror_53 : decode cX0_mirror 53 = .ok (.iload_n 3, 1) := by decide +kernel
theorem dX0_mirror_54 : decode cX0_mirror 54 = .ok (.isub, 1) := by decide +kernel
theorem dX0_mirror_55 : decode cX0_mirror 55 = .ok (.istore 5, 2) := by decide +kernel
theorem dX0_mirror_57 : decode cX0_mirror 57 = .ok (.aload_n 0, 1) := by decide +kernel
theorem dX0_mirror_58 : decode cX0_mirror 58 = .ok (.dup, 1) := by decide +kernel
theorem dX0_mirror_59 : decode cX0_mirror 59 = .ok (.getfield 24, 3) := by decide +kernel
theorem dX0_mirror_62 : decode cX0_mirror 62 = .ok (.iload_n 1, 1) := by decide +kernel
theorem dX0_mirror_63 : decode cX0_mirror 63 = .ok (.iload 5, 2) := by decide +kernel
theorem dX0_mirror_65 : decode cX0_mirror 65 = .ok (.ishr, 1) := by decide +kernel
theorem dX0_mirror_66 : decode cX0_mirror 66 = .ok (.iconst 1, 1) := by decide +kernel
theorem dX0_mirror_67 : decode cX0_mirror 67 = .ok (.iand, 1) := by decide +kernel
theorem dX0_mirror_68 : decode cX0_mirror 68 = .ok (.iload 4, 2) := by decide +kernel
theorem dX0_mirror_70 : decode cX0_mirror 70 = .ok (.ishl, 1) := by decide +kernel
theorem dX0_mirror_71 : decode cX0_mirror 71 = .ok (.ior, 1) := by decide +kernel
theorem dX0_mirror_72 : decode cX0_mirror 72 = .ok (.putfield 24, 3) := by decide +kernel
theorem dX0_mirror_75 : decode cX0_mirror 75 = .ok (.iload 4, 2) := by decide +kernel
theorem dX0_mirror_77 : decode cX0_mirror 77 = .ok (.iload 5, 2) := by decide +kernel
theorem dX0_mirror_79 : decode cX0_mirror 79 = .ok (.if_icmp .gt 11, 3) := by decide +kernel
theorem dX0_mirror_82 : decode cX0_mirror 82 = .ok (.aload_n 0, 1) := by decide +kernel
theorem dX0_mirror_83 : decode cX0_mirror 83 = .ok (.iload 4, 2) := by decide +kernel
theorem dX0_mirror_85 : decode cX0_mirror 85 = .ok (.iload 5, 2) := by decide +kernel
theorem dX0_mirror_87 : decode cX0_mirror 87 = .ok (.invokevirtual 55, 3) := by decide +kernel
theorem dX0_mirror_90 : decode cX0_mirror 90 = .ok (.iinc 3 1, 3) := by decide +kernel
theorem dX0_mirror_93 : decode cX0_mirror 93 = .ok (.goto (-71), 3) := by decide +kernel
theorem dX0_mirror_96 : decode cX0_mirror 96 = .ok (.iinc 2 1, 3) := by decide +kernel
theorem dX0_mirror_99 : decode cX0_mirror 99 = .ok (.goto (-87), 3) := by decide +kernel
theorem dX0_mirror_102 : decode cX0_mirror 102 = .ok (.iconst 0, 1) := by decide +kernel
theorem dX0_mirror_103 : decode cX0_mirror 103 = .ok (.istore_n 2, 1) := by decide +kernel
theorem dX0_mirror_104 : decode cX0_mirror 104 = .ok (.iload_n 2, 1) := by decide +kernel
theorem dX0_mirror_105 : decode cX0_mirror 105 = .ok (.aload_n 0, 1) := by decide +kernel
theorem dX0_mirror_106 : decode cX0_mirror 106 = .ok (.invokevirtual 43, 3) := by decide +kernel
theorem dX0_mirror_109 : decode cX0_mirror 109 = .ok (.if_icmp .ge 32, 3) := by decide +kernel
theorem dX0_mirror_112 : decode cX0_mirror 112 = .ok (.aload_n 0, 1) := by decide +kernel
theorem dX0_mirror_113 : decode cX0_mirror 113 = .ok (.iload_n 2, 1) := by decide +kernel
theorem dX0_mirror_114 : decode cX0_mirror 114 = .ok (.invokevirtual 47, 3) := by decide +kernel
theorem dX0_mirror_117 : decode cX0_mirror 117 = .ok (.ifCond .ne 18, 3) := by decide +kernel
theorem dX0_mirror_120 : decode cX0_mirror 120 = .ok (.aload_n 0, 1) := by decide +kernel
theorem dX0_mirror_121 : decode cX0_mirror 121 = .ok (.getfield 31, 3) := by decide +kernel
theorem dX0_mirror_124 : decode cX0_mirror 124 = .ok (.aload_n 0, 1) := by decide +kernel
theorem dX0_mirror_125 : decode cX0_mirror 125 = .ok (.getfield 27, 3) := by decide +kernel
theorem dX0_mirror_128 : decode cX0_mirror 128 = .ok (.iload_n 2, 1) := by decide +kernel
theorem dX0_mirror_129 : decode cX0_mirror 129 = .ok (.iaload, 1) := by decide +kernel
theorem dX0_mirror_130 : decode cX0_mirror 130 = .ok (.bipush 8, 2) := by decide +kernel
theorem dX0_mirror_132 : decode cX0_mirror 132 = .ok (.idiv, 1) := by decide +kernel
theorem dX0_mirror_133 : decode cX0_mirror 133 = .ok (.iload_n 2, 1) := by decide +kernel
theorem dX0_mirror_134 : decode cX0_mirror 134 = .ok (.iastore, 1) := by decide +kernel
theorem dX0_mirror_135 : decode cX0_mirror 135 = .ok (.iinc 2 1, 3) := by decide +kernel
theorem dX0_mirror_138 : decode cX0_mirror 138 = .ok (.goto (-34), 3) := by decide +kernel
theorem dX0_mirror_141 : decode cX0_mirror 141 = .ok (.return_, 1) := by decide +kernel
set_option maxRecDepth 20000 in
theorem ggX0_swapTurnedOver_X6_placingTurnedOver : GoodIn wsX0_swapTurnedOver wsX6_placingTurnedOver := goodIn_r _ [4] (by decide +kernel) (by decide +kernel)
set_option maxRecDepth 20000 in
theorem gX0_swapTurnedOver_X6_placingTurnedOver_n59 : GoodIn wsX0_swapTurnedOver (wsX6_placingTurnedOver) := ggX0_swapTurnedOver_X6_placingTurnedOver
theorem dX0_swapTurnedOver_0 : decode cX0_swapTurnedOver 0 = .ok (.aload_n 0, 1) := by decide +kernel
theorem dX0_swapTurnedOver_1 : decode cX0_swapTurnedOver 1 = .ok (.getfield 27, 3) := by decide +kernel
theorem dX0_swapTurnedOver_4 : decode cX0_swapTurnedOver 4 = .ok (.iload_n 1, 1) := by decide +kernel
theorem dX0_swapTurnedOver_5 : decode cX0_swapTurnedOver 5 = .ok (.iaload, 1) := by decide +kernel
theorem dX0_swapTurnedOver_6 : decode cX0_swapTurnedOver 6 = .ok (.istore_n 3, 1) := by decide +kernel
theorem dX0_swapTurnedOver_7 : decode cX0_swapTurnedOver 7 = .ok (.aload_n 0, 1) := by decide +kernel
theorem dX0_swapTurnedOver_8 : decode cX0_swapTurnedOver 8 = .ok (.getfield 27, 3) := by decide +kernel
theorem dX0_swapTurnedOver_11 : decode cX0_swapTurnedOver 11 = .ok (.iload_n 1, 1) := by decide +kernel
theorem dX0_swapTurnedOver_12 : decode cX0_swapTurnedOver 12 = .ok (.aload_n 0, 1) := by decide +kernel
theorem dX0_swapTurnedOver_13 : decode cX0_swapTurnedOver 13 = .ok (.getfield 27, 3) := by decide +kernel
theorem dX0_swapTurnedOver_16 : decode cX0_swapTurnedOver 16 = .ok (.iload_n 2, 1) := by decide +kernel
theorem dX0_swapTurnedOver_17 : decode cX0_swapTurnedOver 17 = .ok (.iaload, 1) := by decide +kernel
theorem dX0_swapTurnedOver_18 : decode cX0_swapTurnedOver 18 = .ok (.invokestatic 59, 3) := by decide +kernel
theorem dX0_swapTurnedOver_21 : decode cX0_swapTurnedOver 21 = .ok (.iastore, 1) := by decide +kernel
theorem dX0_swapTurnedOver_22 : decode cX0_swapTurnedOver 22 = .ok (.aload_n 0, 1) := by decide +kernel
theorem dX0_swapTurnedOver_23 : decode cX0_swapTurnedOver 23 = .ok (.getfield 27, 3) := by decide +kernel
theorem dX0_swapTurnedOver_26 : decode cX0_swapTurnedOver 26 = .ok (.iload_n 2, 1) := by decide +kernel
theorem dX0_swapTurnedOver_27 : decode cX0_swapTurnedOver 27 = .ok (.iload_n 3, 1) := by decide +kernel
theorem dX0_swapTurnedOver_28 : decode cX0_swapTurnedOver 28 = .ok (.invokestatic 59, 3) := by decide +kernel
theorem dX0_swapTurnedOver_31 : decode cX0_swapTurnedOver 31 = .ok (.iastore, 1) := by decide +kernel
theorem dX0_swapTurnedOver_32 : decode cX0_swapTurnedOver 32 = .ok (.return_, 1) := by decide +kernel
set_option maxRecDepth 20000 in
theorem ggX0_addFaces_X6_lookOfFaces : GoodIn wsX0_addFaces wsX6_lookOfFaces := goodIn_r _ [5, 6, 7, 4, 8, 9, 10, 11] (by decide +kernel) (by decide +kernel)
set_option maxRecDepth 20000 in
theorem gX0_addFaces_X6_lookOfFaces_n63 : GoodIn wsX0_addFaces (wsX6_lookOfFaces) := ggX0_addFaces_X6_lookOfFaces
set_option maxRecDepth 20000 in
theorem ggX0_addFaces_X0_makeWays : GoodIn wsX0_addFaces wsX0_makeWays := goodIn_r _ [16, 1, 17, 4, 18, 19, 20, 21, 22, 9, 10, 11, 23, 24, 25, 26, 27, 28, 29, 30, 31, 32] (by decide +kernel) (by decide +kernel)
set_option maxRecDepth 20000 in
theorem gX0_addFaces_X0_makeWays : GoodIn wsX0_addFaces (wsV RX0 67 RX0 yX0_makeWays wsX0_makeWays) := goodIn_app (goodIn_of _ (by decide +kernel)) ggX0_addFaces_X0_makeWays
theorem dX0_addFaces_0 : decode cX0_addFaces 0 = .ok (.aload_n 0, 1) := by decide +kernel
theorem dX0_addFaces_1 : decode cX0_addFaces 1 = .ok (.getfield 34, 3) := by decide +kernel
theorem dX0_addFaces_4 : decode cX0_addFaces 4 = .ok (.bipush 8, 2) := by decide +kernel
theorem dX0_addFaces_6 : decode cX0_addFaces 6 = .ok (.aload_n 0, 1) := by decide +kernel
theorem dX0_addFaces_7 : decode cX0_addFaces 7 = .ok (.getfield 21, 3) := by decide +kernel
theorem dX0_addFaces_10 : decode cX0_addFaces 10 = .ok (.imul, 1) := by decide +kernel
theorem dX0_addFaces_11 : decode cX0_addFaces 11 = .ok (.iload_n 1, 1) := by decide +kernel
theorem dX0_addFaces_12 : decode cX0_addFaces 12 = .ok (.iload_n 2, 1) := by decide +kernel
theorem dX0_addFaces_13 : decode cX0_addFaces 13 = .ok (.invokestatic 63, 3) := by decide +kernel
theorem dX0_addFaces_16 : decode cX0_addFaces 16 = .ok (.iastore, 1) := by decide +kernel
theorem dX0_addFaces_17 : decode cX0_addFaces 17 = .ok (.aload_n 0, 1) := by decide +kernel
theorem dX0_addFaces_18 : decode cX0_addFaces 18 = .ok (.aload_n 0, 1) := by decide +kernel
theorem dX0_addFaces_19 : decode cX0_addFaces 19 = .ok (.getfield 21, 3) := by decide +kernel
theorem dX0_addFaces_22 : decode cX0_addFaces 22 = .ok (.invokevirtual 67, 3) := by decide +kernel
theorem dX0_addFaces_25 : decode cX0_addFaces 25 = .ok (.aload_n 0, 1) := by decide +kernel
theorem dX0_addFaces_26 : decode cX0_addFaces 26 = .ok (.dup, 1) := by decide +kernel
theorem dX0_addFaces_27 : decode cX0_addFaces 27 = .ok (.getfield 21, 3) := by decide +kernel
theorem dX0_addFaces_30 : decode cX0_addFaces 30 = .ok (.iconst 1, 1) := by decide +kernel
theorem dX0_addFaces_31 : decode cX0_addFaces 31 = .ok (.iadd, 1) := by decide +kernel
theorem dX0_addFaces_32 : decode cX0_addFaces 32 = .ok (.putfield 21, 3) := by decide +kernel
theorem dX0_addFaces_35 : decode cX0_addFaces 35 = .ok (.return_, 1) := by decide +kernel
set_option maxRecDepth 20000 in
theorem ggX0_makeWays_X6_turnedOver : GoodIn wsX0_makeWays wsX6_turnedOver := goodIn_r _ [4, 5, 6, 3, 7, 8, 9, 10, 11] (by decide +kernel) (by decide +kernel)
set_option maxRecDepth 20000 in
theorem gX0_makeWays_X6_turnedOver_n70 : GoodIn wsX0_makeWays (wsX6_turnedOver) := ggX0_makeWays_X6_turnedOver
set_option maxRecDepth 20000 in
theorem ggX0_makeWays_X6_turned : GoodIn wsX0_makeWays wsX6_turned := goodIn_r _ [13, 5, 6, 3, 7, 8] (by decide +kernel) (by decide +kernel)
set_option maxRecDepth 20000 in
theorem gX0_makeWays_X6_turned_n73 : GoodIn wsX0_makeWays (wsX6_turned) := ggX0_makeWays_X6_turned
theorem dX0_makeWays_0 : decode cX0_makeWays 0 = .ok (.bipush 8, 2) := by decide +kernel
theorem dX0_makeWays_2 : decode cX0_makeWays 2 = .ok (.iload_n 1, 1) := by decide +kernel
theorem dX0_makeWays_3 : decode cX0_makeWays 3 = .ok (.imul, 1) := by decide +kernel
theorem dX0_makeWays_4 : decode cX0_makeWays 4 = .ok (.istore_n 2, 1) := by decide +kernel
theorem dX0_makeWays_5 : decode cX0_makeWays 5 = .ok (.aload_n 0, 1) := by decide +kernel
theorem dX0_makeWays_6 : decode cX0_makeWays 6 = .ok (.getfield 34, 3) := by decide +kernel
theorem dX0_makeWays_9 : decode cX0_makeWays 9 = .ok (.iload_n 2, 1) := by decide +kernel
theorem dX0_makeWays_10 : decode cX0_makeWays 10 = .ok (.iconst 4, 1) := by decide +kernel
theorem dX0_makeWays_11 : decode cX0_makeWays 11 = .ok (.iadd, 1) := by decide +kernel
theorem dX0_makeWays_12 : decode cX0_makeWays 12 = .ok (.aload_n 0, 1) := by decide +kernel
theorem dX0_makeWays_13 : decode cX0_makeWays 13 = .ok (.getfield 34, 3) := by decide +kernel
theorem dX0_makeWays_16 : decode cX0_makeWays 16 = .ok (.iload_n 2, 1) := by decide +kernel
theorem dX0_makeWays_17 : decode cX0_makeWays 17 = .ok (.iaload, 1) := by decide +kernel
theorem dX0_makeWays_18 : decode cX0_makeWays 18 = .ok (.invokestatic 70, 3) := by decide +kernel
theorem dX0_makeWays_21 : decode cX0_makeWays 21 = .ok (.iastore, 1) := by decide +kernel
theorem dX0_makeWays_22 : decode cX0_makeWays 22 = .ok (.iconst 1, 1) := by decide +kernel
theorem dX0_makeWays_23 : decode cX0_makeWays 23 = .ok (.istore_n 3, 1) := by decide +kernel
theorem dX0_makeWays_24 : decode cX0_makeWays 24 = .ok (.iload_n 3, 1) := by decide +kernel
theorem dX0_makeWays_25 : decode cX0_makeWays 25 = .ok (.iconst 4, 1) := by decide +kernel
theorem dX0_makeWays_26 : decode cX0_makeWays 26 = .ok (.if_icmp .ge 55, 3) := by decide +kernel
theorem dX0_makeWays_29 : decode cX0_makeWays 29 = .ok (.aload_n 0, 1) := by decide +kernel
theorem dX0_makeWays_30 : decode cX0_makeWays 30 = .ok (.getfield 34, 3) := by decide +kernel
theorem dX0_makeWays_33 : decode cX0_makeWays 33 = .ok (.iload_n 2, 1) := by decide +kernel
theorem dX0_makeWays_34 : decode cX0_makeWays 34 = .ok (.iload_n 3, 1) := by decide +kernel
theorem dX0_makeWays_35 : decode cX0_makeWays 35 = .ok (.iadd, 1) := by decide +kernel
theorem dX0_makeWays_36 : decode cX0_makeWays 36 = .ok (.aload_n 0, 1) := by decide +kernel
theorem dX0_makeWays_37 : decode cX0_makeWays 37 = .ok (.getfield 34, 3) := by decide +kernel
theorem dX0_makeWays_40 : decode cX0_makeWays 40 = .ok (.iload_n 2, 1) := by decide +kernel
theorem dX0_makeWays_41 : decode cX0_makeWays 41 = .ok (.iload_n 3, 1) := by decide +kernel
theorem dX0_makeWays_42 : decode cX0_makeWays 42 = .ok (.iadd, 1) := by decide +kernel
theorem dX0_makeWays_43 : decode cX0_makeWays 43 = .ok (.iconst 1, 1) := by decide +kernel
theorem dX0_makeWays_44 : decode cX0_makeWays 44 = .ok (.isub, 1) := by decide +kernel
theorem dX0_makeWays_45 : decode cX0_makeWays 45 = .ok (.iaload, 1) := by decide +kernel
theorem dX0_makeWays_46 : decode cX0_makeWays 46 = .ok (.invokestatic 73, 3) := by decide +kernel
theorem dX0_makeWays_49 : decode cX0_makeWays 49 = .ok (.iastore, 1) := by decide +kernel
theorem dX0_makeWays_50 : decode cX0_makeWays 50 = .ok (.aload_n 0, 1) := by decide +kernel
theorem dX0_makeWays_51 : decode cX0_makeWays 51 = .ok (.getfield 34, 3) := by decide +kernel
theorem dX0_makeWays_54 : decode cX0_makeWays 54 = .ok (.iload_n 2, 1) := by decide +kernel
theorem dX0_makeWays_55 : decode cX0_makeWays 55 = .ok (.iconst 4, 1) := by decide +kernel
theorem dX0_makeWays_56 : decode cX0_makeWays 56 = .ok (.iadd, 1) := by decide +kernel
theorem dX0_makeWays_57 : decode cX0_makeWays 57 = .ok (.iload_n 3, 1) := by decide +kernel
theorem dX0_makeWays_58 : decode cX0_makeWays 58 = .ok (.iadd, 1) := by decide +kernel
theorem dX0_makeWays_59 : decode cX0_makeWays 59 = .ok (.aload_n 0, 1) := by decide +kernel
theorem dX0_makeWays_60 : decode cX0_makeWays 60 = .ok (.getfield 34, 3) := by decide +kernel
theorem dX0_makeWays_63 : decode cX0_makeWays 63 = .ok (.iload_n 2, 1) := by decide +kernel
theorem dX0_makeWays_64 : decode cX0_makeWays 64 = .ok (.iconst 4, 1) := by decide +kernel
theorem dX0_makeWays_65 : decode cX0_makeWays 65 = .ok (.iadd, 1) := by decide +kernel
theorem dX0_makeWays_66 : decode cX0_makeWays 66 = .ok (.iload_n 3, 1) := by decide +kernel
theorem dX0_makeWays_67 : decode cX0_makeWays 67 = .ok (.iadd, 1) := by decide +kernel
theorem dX0_makeWays_68 : decode cX0_makeWays 68 = .ok (.iconst 1, 1) := by decide +kernel
theorem dX0_makeWays_69 : decode cX0_makeWays 69 = .ok (.isub, 1) := by decide +kernel
theorem dX0_makeWays_70 : decode cX0_makeWays 70 = .ok (.iaload, 1) := by decide +kernel
theorem dX0_makeWays_71 : decode cX0_makeWays 71 = .ok (.invokestatic 73, 3) := by decide +kernel
theorem dX0_makeWays_74 : decode cX0_makeWays 74 = .ok (.iastore, 1) := by decide +kernel
theorem dX0_makeWays_75 : decode cX0_makeWays 75 = .ok (.iinc 3 1, 3) := by decide +kernel
theorem dX0_makeWays_78 : decode cX0_makeWays 78 = .ok (.goto (-54), 3) := by decide +kernel
theorem dX0_makeWays_81 : decode cX0_makeWays 81 = .ok (.return_, 1) := by decide +kernel
set_option maxRecDepth 20000 in
theorem ggX0_cutTiles_X0_cells : GoodIn wsX0_cutTiles wsX0_cells := goodIn_r _ [7, 8, 9, 44, 45, 46, 47, 48, 49, 50, 51] (by decide +kernel) (by decide +kernel)
set_option maxRecDepth 20000 in
theorem gX0_cutTiles_X0_cells : GoodIn wsX0_cutTiles (wsV RX0 43 RX0 yX0_cells wsX0_cells) := goodIn_app (goodIn_of _ (by decide +kernel)) ggX0_cutTiles_X0_cells
set_option maxRecDepth 20000 in
theorem ggX0_cutTiles_X0_cutSide : GoodIn wsX0_cutTiles wsX0_cutSide := goodIn_r _ [13, 2, 14, 15, 16, 6, 17, 9, 3, 4, 5, 7, 8, 18, 19, 20, 21, 22, 23, 24, 25, 26, 27, 28, 44, 45, 46, 47, 48, 49, 50, 51, 52, 53, 54] (by decide +kernel) (by decide +kernel)
set_option maxRecDepth 20000 in
theorem gX0_cutTiles_X0_cutSide : GoodIn wsX0_cutTiles (wsV RX0 76 RX0 yX0_cutSide wsX0_cutSide) := goodIn_app (goodIn_of _ (by decide +kernel)) ggX0_cutTiles_X0_cutSide
set_option maxRecDepth 20000 in
theorem ggX0_cutTiles_X0_makeWays : GoodIn wsX0_cutTiles wsX0_makeWays := goodIn_r _ [32, 2, 33, 27, 34, 35, 36, 37, 38, 39, 40, 41, 42, 43, 44, 45, 46, 47, 48, 49, 50, 51] (by decide +kernel) (by decide +kernel)
set_option maxRecDepth 20000 in
theorem gX0_cutTiles_X0_makeWays : GoodIn wsX0_cutTiles (wsV RX0 67 RX0 yX0_makeWays wsX0_makeWays) := goodIn_app (goodIn_of _ (by decide +kernel)) ggX0_cutTiles_X0_makeWays
theorem dX0_cutTiles_0 : decode cX0_cutTiles 0 = .ok (.aload_n 0, 1) := by decide +kernel
theorem dX0_cutTiles_1 : decode cX0_cutTiles 1 = .ok (.aload_n 0, 1) := by decide +kernel
theorem dX0_cutTiles_2 : decode cX0_cutTiles 2 = .ok (.invokevirtual 43, 3) := by decide +kernel
theorem dX0_cutTiles_5 : decode cX0_cutTiles 5 = .ok (.putfield 21, 3) := by decide +kernel
theorem dX0_cutTiles_8 : decode cX0_cutTiles 8 = .ok (.iconst 0, 1) := by decide +kernel
theorem dX0_cutTiles_9 : decode cX0_cutTiles 9 = .ok (.istore_n 2, 1) := by decide +kernel
theorem dX0_cutTiles_10 : decode cX0_cutTiles 10 = .ok (.iload_n 2, 1) := by decide +kernel
theorem dX0_cutTiles_11 : decode cX0_cutTiles 11 = .ok (.aload_n 0, 1) := by decide +kernel
theorem dX0_cutTiles_12 : decode cX0_cutTiles 12 = .ok (.getfield 21, 3) := by decide +kernel
theorem dX0_cutTiles_15 : decode cX0_cutTiles 15 = .ok (.if_icmp .ge 19, 3) := by decide +kernel
theorem dX0_cutTiles_18 : decode cX0_cutTiles 18 = .ok (.aload_n 0, 1) := by decide +kernel
theorem dX0_cutTiles_19 : decode cX0_cutTiles 19 = .ok (.getfield 34, 3) := by decide +kernel
theorem dX0_cutTiles_22 : decode cX0_cutTiles 22 = .ok (.bipush 8, 2) := by decide +kernel
theorem dX0_cutTiles_24 : decode cX0_cutTiles 24 = .ok (.iload_n 2, 1) := by decide +kernel
theorem dX0_cutTiles_25 : decode cX0_cutTiles 25 = .ok (.imul, 1) := by decide +kernel
theorem dX0_cutTiles_26 : decode cX0_cutTiles 26 = .ok (.iconst 0, 1) := by decide +kernel
theorem dX0_cutTiles_27 : decode cX0_cutTiles 27 = .ok (.iastore, 1) := by decide +kernel
theorem dX0_cutTiles_28 : decode cX0_cutTiles 28 = .ok (.iinc 2 1, 3) := by decide +kernel
theorem dX0_cutTiles_31 : decode cX0_cutTiles 31 = .ok (.goto (-21), 3) := by decide +kernel
theorem dX0_cutTiles_34 : decode cX0_cutTiles 34 = .ok (.iconst 0, 1) := by decide +kernel
theorem dX0_cutTiles_35 : decode cX0_cutTiles 35 = .ok (.istore_n 2, 1) := by decide +kernel
theorem dX0_cutTiles_36 : decode cX0_cutTiles 36 = .ok (.iload_n 2, 1) := by decide +kernel
theorem dX0_cutTiles_37 : decode cX0_cutTiles 37 = .ok (.aload_n 0, 1) := by decide +kernel
theorem dX0_cutTiles_38 : decode cX0_cutTiles 38 = .ok (.getfield 21, 3) := by decide +kernel
theorem dX0_cutTiles_41 : decode cX0_cutTiles 41 = .ok (.if_icmp .ge 23, 3) := by decide +kernel
theorem dX0_cutTiles_44 : decode cX0_cutTiles 44 = .ok (.aload_n 0, 1) := by decide +kernel
theorem dX0_cutTiles_45 : decode cX0_cutTiles 45 = .ok (.iload_n 2, 1) := by decide +kernel
theorem dX0_cutTiles_46 : decode cX0_cutTiles 46 = .ok (.iconst 1, 1) := by decide +kernel
theorem dX0_cutTiles_47 : decode cX0_cutTiles 47 = .ok (.aload_n 1, 1) := by decide +kernel
theorem dX0_cutTiles_48 : decode cX0_cutTiles 48 = .ok (.invokevirtual 76, 3) := by decide +kernel
theorem dX0_cutTiles_51 : decode cX0_cutTiles 51 = .ok (.aload_n 0, 1) := by decide +kernel
theorem dX0_cutTiles_52 : decode cX0_cutTiles 52 = .ok (.iload_n 2, 1) := by decide +kernel
theorem dX0_cutTiles_53 : decode cX0_cutTiles 53 = .ok (.iconst 2, 1) := by decide +kernel
theorem dX0_cutTiles_54 : decode cX0_cutTiles 54 = .ok (.aload_n 1, 1) := by decide +kernel
theorem dX0_cutTiles_55 : decode cX0_cutTiles 55 = .ok (.invokevirtual 76, 3) := by decide +kernel
theorem dX0_cutTiles_58 : decode cX0_cutTiles 58 = .ok (.iinc 2 1, 3) := by decide +kernel
theorem dX0_cutTiles_61 : decode cX0_cutTiles 61 = .ok (.goto (-25), 3) := by decide +kernel
theorem dX0_cutTiles_64 : decode cX0_cutTiles 64 = .ok (.iconst 0, 1) := by decide +kernel
theorem dX0_cutTiles_65 : decode cX0_cutTiles 65 = .ok (.istore_n 2, 1) := by decide +kernel
theorem dX0_cutTiles_66 : decode cX0_cutTiles 66 = .ok (.iload_n 2, 1) := by decide +kernel
theorem dX0_cutTiles_67 : decode cX0_cutTiles 67 = .ok (.aload_n 0, 1) := by decide +kernel
theorem dX0_cutTiles_68 : decode cX0_cutTiles 68 = .ok (.getfield 21, 3) := by decide +kernel
theorem dX0_cutTiles_71 : decode cX0_cutTiles 71 = .ok (.if_icmp .ge 14, 3) := by decide +kernel
theorem dX0_cutTiles_74 : decode cX0_cutTiles 74 = .ok (.aload_n 0, 1) := by decide +kernel
theorem dX0_cutTiles_75 : decode cX0_cutTiles 75 = .ok (.iload_n 2, 1) := by decide +kernel
theorem dX0_cutTiles_76 : decode cX0_cutTiles 76 = .ok (.invokevirtual 67, 3) := by decide +kernel
theorem dX0_cutTiles_79 : decode cX0_cutTiles 79 = .ok (.iinc 2 1, 3) := by decide +kernel
theorem dX0_cutTiles_82 : decode cX0_cutTiles 82 = .ok (.goto (-16), 3) := by decide +kernel
theorem dX0_cutTiles_85 : decode cX0_cutTiles 85 = .ok (.return_, 1) := by decide +kernel
set_option maxRecDepth 20000 in
theorem ggX0_cutSide_X0_neighbor : GoodIn wsX0_cutSide wsX0_neighbor := goodIn_r _ [6, 7, 8, 9, 10, 5, 11, 12, 24, 25, 26, 27, 28, 29, 30, 31] (by decide +kernel) (by decide +kernel)
set_option maxRecDepth 20000 in
theorem gX0_cutSide_X0_neighbor : GoodIn wsX0_cutSide (wsV RX0 80 RX0 yX0_neighbor wsX0_neighbor) := goodIn_app (goodIn_of _ (by decide +kernel)) ggX0_cutSide_X0_neighbor
set_option maxRecDepth 20000 in
theorem ggX0_cutSide_X1_next : GoodIn wsX0_cutSide wsX1_next := goodIn_r _ [17, 18, 19, 20, 32, 33, 34] (by decide +kernel) (by decide +kernel)
set_option maxRecDepth 20000 in
theorem gX0_cutSide_X1_next : GoodIn wsX0_cutSide (wsV RX0 83 RX1 yX1_next wsX1_next) := goodIn_app (goodIn_of _ (by decide +kernel)) ggX0_cutSide_X1_next
set_option maxRecDepth 20000 in
theorem ggX0_cutSide_X6_opposite : GoodIn wsX0_cutSide wsX6_opposite := goodIn_r _ [23] (by decide +kernel) (by decide +kernel)
set_option maxRecDepth 20000 in
theorem gX0_cutSide_X6_opposite_n88 : GoodIn wsX0_cutSide (wsX6_opposite) := ggX0_cutSide_X6_opposite
theorem dX0_cutSide_0 : decode cX0_cutSide 0 = .ok (.aload_n 0, 1) := by decide +kernel
theorem dX0_cutSide_1 : decode cX0_cutSide 1 = .ok (.iload_n 1, 1) := by decide +kernel
theorem dX0_cutSide_2 : decode cX0_cutSide 2 = .ok (.iload_n 2, 1) := by decide +kernel
theorem dX0_cutSide_3 : decode cX0_cutSide 3 = .ok (.invokevirtual 80, 3) := by decide +kernel
theorem dX0_cutSide_6 : decode cX0_cutSide 6 = .ok (.istore 4, 2) := by decide +kernel
theorem dX0_cutSide_8 : decode cX0_cutSide 8 = .ok (.iload 4, 2) := by decide +kernel
theorem dX0_cutSide_10 : decode cX0_cutSide 10 = .ok (.iconst (-1), 1) := by decide +kernel
theorem dX0_cutSide_11 : decode cX0_cutSide 11 = .ok (.if_icmp .ne 4, 3) := by decide +kernel
theorem dX0_cutSide_14 : decode cX0_cutSide 14 = .ok (.return_, 1) := by decide +kernel
theorem dX0_cutSide_15 : decode cX0_cutSide 15 = .ok (.aload_n 3, 1) := by decide +kernel
theorem dX0_cutSide_16 : decode cX0_cutSide 16 = .ok (.invokevirtual 83, 3) := by decide +kernel
theorem dX0_cutSide_19 : decode cX0_cutSide 19 = .ok (.istore 5, 2) := by decide +kernel
theorem dX0_cutSide_21 : decode cX0_cutSide 21 = .ok (.aload_n 3, 1) := by decide +kernel
theorem dX0_cutSide_22 : decode cX0_cutSide 22 = .ok (.invokevirtual 83, 3) := by decide +kernel
theorem dX0_cutSide_25 : decode cX0_cutSide 25 = .ok (.istore 6, 2) := by decide +kernel
theorem dX0_cutSide_27 : decode cX0_cutSide 27 = .ok (.iload 5, 2) := by decide +kernel
theorem dX0_cutSide_29 : decode cX0_cutSide 29 = .ok (.iload 6, 2) := by decide +kernel
theorem dX0_cutSide_31 : decode cX0_cutSide 31 = .ok (.bipush 16, 2) := by decide +kernel
theorem dX0_cutSide_33 : decode cX0_cutSide 33 = .ok (.ishl, 1) := by decide +kernel
theorem dX0_cutSide_34 : decode cX0_cutSide 34 = .ok (.ior, 1) := by decide +kernel
theorem dX0_cutSide_35 : decode cX0_cutSide 35 = .ok (.istore 7, 2) := by decide +kernel
theorem dX0_cutSide_37 : decode cX0_cutSide 37 = .ok (.aload_n 0, 1) := by decide +kernel
theorem dX0_cutSide_38 : decode cX0_cutSide 38 = .ok (.getfield 34, 3) := by decide +kernel
theorem dX0_cutSide_41 : decode cX0_cutSide 41 = .ok (.bipush 8, 2) := by decide +kernel
theorem dX0_cutSide_43 : decode cX0_cutSide 43 = .ok (.iload_n 1, 1) := by decide +kernel
theorem dX0_cutSide_44 : decode cX0_cutSide 44 = .ok (.imul, 1) := by decide +kernel
theorem dX0_cutSide_45 : decode cX0_cutSide 45 = .ok (.dup2, 1) := by decide +kernel
theorem dX0_cutSide_46 : decode cX0_cutSide 46 = .ok (.iaload, 1) := by decide +kernel
theorem dX0_cutSide_47 : decode cX0_cutSide 47 = .ok (.iload 7, 2) := by decide +kernel
theorem dX0_cutSide_49 : decode cX0_cutSide 49 = .ok (.iconst 4, 1) := by decide +kernel
theorem dX0_cutSide_50 : decode cX0_cutSide 50 = .ok (.iload_n 2, 1) := by decide +kernel
theorem dX0_cutSide_51 : decode cX0_cutSide 51 = .ok (.imul, 1) := by decide +kernel
theorem dX0_cutSide_52 : decode cX0_cutSide 52 = .ok (.ishl, 1) := by decide +kernel
theorem dX0_cutSide_53 : decode cX0_cutSide 53 = .ok (.ior, 1) := by decide +kernel
theorem dX0_cutSide_54 : decode cX0_cutSide 54 = .ok (.iastore, 1) := by decide +kernel
theorem dX0_cutSide_55 : decode cX0_cutSide 55 = .ok (.aload_n 0, 1) := by decide +kernel
theorem dX0_cutSide_56 : decode cX0_cutSide 56 = .ok (.getfield 34, 3) := by decide +kernel
theorem dX0_cutSide_59 : decode cX0_cutSide 59 = .ok (.bipush 8, 2) := by decide +kernel
theorem dX0_cutSide_61 : decode cX0_cutSide 61 = .ok (.iload 4, 2) := by decide +kernel
theorem dX0_cutSide_63 : decode cX0_cutSide 63 = .ok (.imul, 1) := by decide +kernel
theorem dX0_cutSide_64 : decode cX0_cutSide 64 = .ok (.dup2, 1) := by decide +kernel
theorem dX0_cutSide_65 : decode cX0_cutSide 65 = .ok (.iaload, 1) := by decide +kernel
theorem dX0_cutSide_66 : decode cX0_cutSide 66 = .ok (.iload 7, 2) := by decide +kernel
theorem dX0_cutSide_68 : decode cX0_cutSide 68 = .ok (.iconst 4, 1) := by decide +kernel
theorem dX0_cutSide_69 : decode cX0_cutSide 69 = .ok (.iload_n 2, 1) := by decide +kernel
theorem dX0_cutSide_70 : decode cX0_cutSide 70 = .ok (.invokestatic 88, 3) := by decide +kernel
theorem dX0_cutSide_73 : decode cX0_cutSide 73 = .ok (.imul, 1) := by decide +kernel
theorem dX0_cutSide_74 : decode cX0_cutSide 74 = .ok (.ishl, 1) := by decide +kernel
theorem dX0_cutSide_75 : decode cX0_cutSide 75 = .ok (.ior, 1) := by decide +kernel
theorem dX0_cutSide_76 : decode cX0_cutSide 76 = .ok (.iastore, 1) := by decide +kernel
theorem dX0_cutSide_77 : decode cX0_cutSide 77 = .ok (.return_, 1) := by decide +kernel
set_option maxRecDepth 20000 in
theorem ggX0_faceOf_X6_colorsAt : GoodIn wsX0_faceOf wsX6_colorsAt := goodIn_r _ [4, 5] (by decide +kernel) (by decide +kernel)
set_option maxRecDepth 20000 in
theorem gX0_faceOf_X6_colorsAt_n91 : GoodIn wsX0_faceOf (wsX6_colorsAt) := ggX0_faceOf_X6_colorsAt
theorem dX0_faceOf_0 : decode cX0_faceOf 0 = .ok (.aload_n 0, 1) := by decide +kernel
theorem dX0_faceOf_1 : decode cX0_faceOf 1 = .ok (.getfield 34, 3) := by decide +kernel
theorem dX0_faceOf_4 : decode cX0_faceOf 4 = .ok (.bipush 8, 2) := by decide +kernel
theorem dX0_faceOf_6 : decode cX0_faceOf 6 = .ok (.iload_n 1, 1) := by decide +kernel
theorem dX0_faceOf_7 : decode cX0_faceOf 7 = .ok (.imul, 1) := by decide +kernel
theorem dX0_faceOf_8 : decode cX0_faceOf 8 = .ok (.iconst 4, 1) := by decide +kernel
theorem dX0_faceOf_9 : decode cX0_faceOf 9 = .ok (.iload_n 2, 1) := by decide +kernel
theorem dX0_faceOf_10 : decode cX0_faceOf 10 = .ok (.imul, 1) := by decide +kernel
theorem dX0_faceOf_11 : decode cX0_faceOf 11 = .ok (.iadd, 1) := by decide +kernel
theorem dX0_faceOf_12 : decode cX0_faceOf 12 = .ok (.iaload, 1) := by decide +kernel
theorem dX0_faceOf_13 : decode cX0_faceOf 13 = .ok (.istore_n 3, 1) := by decide +kernel
theorem dX0_faceOf_14 : decode cX0_faceOf 14 = .ok (.iconst 0, 1) := by decide +kernel
theorem dX0_faceOf_15 : decode cX0_faceOf 15 = .ok (.istore 4, 2) := by decide +kernel
theorem dX0_faceOf_17 : decode cX0_faceOf 17 = .ok (.iconst 0, 1) := by decide +kernel
theorem dX0_faceOf_18 : decode cX0_faceOf 18 = .ok (.istore 5, 2) := by decide +kernel
theorem dX0_faceOf_20 : decode cX0_faceOf 20 = .ok (.iload 5, 2) := by decide +kernel
theorem dX0_faceOf_22 : decode cX0_faceOf 22 = .ok (.iconst 4, 1) := by decide +kernel
theorem dX0_faceOf_23 : decode cX0_faceOf 23 = .ok (.if_icmp .ge 26, 3) := by decide +kernel
theorem dX0_faceOf_26 : decode cX0_faceOf 26 = .ok (.bipush 10, 2) := by decide +kernel
theorem dX0_faceOf_28 : decode cX0_faceOf 28 = .ok (.iload 4, 2) := by decide +kernel
theorem dX0_faceOf_30 : decode cX0_faceOf 30 = .ok (.imul, 1) := by decide +kernel
theorem dX0_faceOf_31 : decode cX0_faceOf 31 = .ok (.iload_n 3, 1) := by decide +kernel
theorem dX0_faceOf_32 : decode cX0_faceOf 32 = .ok (.iload 5, 2) := by decide +kernel
theorem dX0_faceOf_34 : decode cX0_faceOf 34 = .ok (.invokestatic 91, 3) := by decide +kernel
theorem dX0_faceOf_37 : decode cX0_faceOf 37 = .ok (.bipush 15, 2) := by decide +kernel
theorem dX0_faceOf_39 : decode cX0_faceOf 39 = .ok (.iand, 1) := by decide +kernel
theorem dX0_faceOf_40 : decode cX0_faceOf 40 = .ok (.iadd, 1) := by decide +kernel
theorem dX0_faceOf_41 : decode cX0_faceOf 41 = .ok (.istore 4, 2) := by decide +kernel
theorem dX0_faceOf_43 : decode cX0_faceOf 43 = .ok (.iinc 5 1, 3) := by decide +kernel
theorem dX0_faceOf_46 : decode cX0_faceOf 46 = .ok (.goto (-26), 3) := by decide +kernel
theorem dX0_faceOf_49 : decode cX0_faceOf 49 = .ok (.iload 4, 2) := by decide +kernel
theorem dX0_faceOf_51 : decode cX0_faceOf 51 = .ok (.ireturn, 1) := by decide +kernel
theorem dX0_lowestLike_0 : decode cX0_lowestLike 0 = .ok (.aload_n 0, 1) := by decide +kernel
theorem dX0_lowestLike_1 : decode cX0_lowestLike 1 = .ok (.getfield 34, 3) := by decide +kernel
theorem dX0_lowestLike_4 : decode cX0_lowestLike 4 = .ok (.bipush 8, 2) := by decide +kernel
theorem dX0_lowestLike_6 : decode cX0_lowestLike 6 = .ok (.iload_n 1, 1) := by decide +kernel
theorem dX0_lowestLike_7 : decode cX0_lowestLike 7 = .ok (.imul, 1) := by decide +kernel
theorem dX0_lowestLike_8 : decode cX0_lowestLike 8 = .ok (.iaload, 1) := by decide +kernel
theorem dX0_lowestLike_9 : decode cX0_lowestLike 9 = .ok (.istore_n 2, 1) := by decide +kernel
theorem dX0_lowestLike_10 : decode cX0_lowestLike 10 = .ok (.iconst 0, 1) := by decide +kernel
theorem dX0_lowestLike_11 : decode cX0_lowestLike 11 = .ok (.istore_n 3, 1) := by decide +kernel
theorem dX0_lowestLike_12 : decode cX0_lowestLike 12 = .ok (.iload_n 3, 1) := by decide +kernel
theorem dX0_lowestLike_13 : decode cX0_lowestLike 13 = .ok (.bipush 8, 2) := by decide +kernel
theorem dX0_lowestLike_15 : decode cX0_lowestLike 15 = .ok (.iload_n 1, 1) := by decide +kernel
theorem dX0_lowestLike_16 : decode cX0_lowestLike 16 = .ok (.imul, 1) := by decide +kernel
theorem dX0_lowestLike_17 : decode cX0_lowestLike 17 = .ok (.if_icmp .ge 24, 3) := by decide +kernel
theorem dX0_lowestLike_20 : decode cX0_lowestLike 20 = .ok (.aload_n 0, 1) := by decide +kernel
theorem dX0_lowestLike_21 : decode cX0_lowestLike 21 = .ok (.getfield 34, 3) := by decide +kernel
theorem dX0_lowestLike_24 : decode cX0_lowestLike 24 = .ok (.iload_n 3, 1) := by decide +kernel
theorem dX0_lowestLike_25 : decode cX0_lowestLike 25 = .ok (.iaload, 1) := by decide +kernel
theorem dX0_lowestLike_26 : decode cX0_lowestLike 26 = .ok (.iload_n 2, 1) := by decide +kernel
theorem dX0_lowestLike_27 : decode cX0_lowestLike 27 = .ok (.if_icmp .ne 8, 3) := by decide +kernel
theorem dX0_lowestLike_30 : decode cX0_lowestLike 30 = .ok (.iload_n 3, 1) := by decide +kernel
theorem dX0_lowestLike_31 : decode cX0_lowestLike 31 = .ok (.bipush 8, 2) := by decide +kernel
theorem dX0_lowestLike_33 : decode cX0_lowestLike 33 = .ok (.idiv, 1) := by decide +kernel
theorem dX0_lowestLike_34 : decode cX0_lowestLike 34 = .ok (.ireturn, 1) := by decide +kernel
theorem dX0_lowestLike_35 : decode cX0_lowestLike 35 = .ok (.iinc 3 1, 3) := by decide +kernel
theorem dX0_lowestLike_38 : decode cX0_lowestLike 38 = .ok (.goto (-26), 3) := by decide +kernel
theorem dX0_lowestLike_41 : decode cX0_lowestLike 41 = .ok (.iload_n 1, 1) := by decide +kernel
theorem dX0_lowestLike_42 : decode cX0_lowestLike 42 = .ok (.ireturn, 1) := by decide +kernel
set_option maxRecDepth 20000 in
theorem ggX0_pairsAlike_X0_cells : GoodIn wsX0_pairsAlike wsX0_cells := goodIn_r _ [5, 6, 7, 32, 33, 34, 35, 36, 37, 38, 39] (by decide +kernel) (by decide +kernel)
set_option maxRecDepth 20000 in
theorem gX0_pairsAlike_X0_cells : GoodIn wsX0_pairsAlike (wsV RX0 43 RX0 yX0_cells wsX0_cells) := goodIn_app (goodIn_of _ (by decide +kernel)) ggX0_pairsAlike_X0_cells
set_option maxRecDepth 20000 in
theorem ggX0_pairsAlike_X0_isAlike : GoodIn wsX0_pairsAlike wsX0_isAlike := goodIn_r _ [11, 12, 13, 14, 4, 15, 7, 1, 2, 3, 5, 6, 16, 17, 18, 19, 20, 21, 22, 23, 24, 25, 26, 27, 28, 29, 30, 31, 32, 33, 34, 35, 36, 37, 38, 39] (by decide +kernel) (by decide +kernel)
set_option maxRecDepth 20000 in
theorem gX0_pairsAlike_X0_isAlike : GoodIn wsX0_pairsAlike (wsV RX0 94 RX0 yX0_isAlike wsX0_isAlike) := goodIn_app (goodIn_of _ (by decide +kernel)) ggX0_pairsAlike_X0_isAlike
theorem dX0_pairsAlike_0 : decode cX0_pairsAlike 0 = .ok (.iconst 0, 1) := by decide +kernel
theorem dX0_pairsAlike_1 : decode cX0_pairsAlike 1 = .ok (.istore_n 2, 1) := by decide +kernel
theorem dX0_pairsAlike_2 : decode cX0_pairsAlike 2 = .ok (.iconst 0, 1) := by decide +kernel
theorem dX0_pairsAlike_3 : decode cX0_pairsAlike 3 = .ok (.istore_n 3, 1) := by decide +kernel
theorem dX0_pairsAlike_4 : decode cX0_pairsAlike 4 = .ok (.iload_n 3, 1) := by decide +kernel
theorem dX0_pairsAlike_5 : decode cX0_pairsAlike 5 = .ok (.aload_n 0, 1) := by decide +kernel
theorem dX0_pairsAlike_6 : decode cX0_pairsAlike 6 = .ok (.invokevirtual 43, 3) := by decide +kernel
theorem dX0_pairsAlike_9 : decode cX0_pairsAlike 9 = .ok (.if_icmp .ge 35, 3) := by decide +kernel
theorem dX0_pairsAlike_12 : decode cX0_pairsAlike 12 = .ok (.aload_n 0, 1) := by decide +kernel
theorem dX0_pairsAlike_13 : decode cX0_pairsAlike 13 = .ok (.iload_n 3, 1) := by decide +kernel
theorem dX0_pairsAlike_14 : decode cX0_pairsAlike 14 = .ok (.iconst 1, 1) := by decide +kernel
theorem dX0_pairsAlike_15 : decode cX0_pairsAlike 15 = .ok (.iload_n 1, 1) := by decide +kernel
theorem dX0_pairsAlike_16 : decode cX0_pairsAlike 16 = .ok (.invokevirtual 94, 3) := by decide +kernel
theorem dX0_pairsAlike_19 : decode cX0_pairsAlike 19 = .ok (.ifCond .eq 6, 3) := by decide +kernel
theorem dX0_pairsAlike_22 : decode cX0_pairsAlike 22 = .ok (.iinc 2 1, 3) := by decide +kernel
theorem dX0_pairsAlike_25 : decode cX0_pairsAlike 25 = .ok (.aload_n 0, 1) := by decide +kernel
theorem dX0_pairsAlike_26 : decode cX0_pairsAlike 26 = .ok (.iload_n 3, 1) := by decide +kernel
theorem dX0_pairsAlike_27 : decode cX0_pairsAlike 27 = .ok (.iconst 2, 1) := by decide +kernel
theorem dX0_pairsAlike_28 : decode cX0_pairsAlike 28 = .ok (.iload_n 1, 1) := by decide +kernel
theorem dX0_pairsAlike_29 : decode cX0_pairsAlike 29 = .ok (.invokevirtual 94, 3) := by decide +kernel
theorem dX0_pairsAlike_32 : decode cX0_pairsAlike 32 = .ok (.ifCond .eq 6, 3) := by decide +kernel
theorem dX0_pairsAlike_35 : decode cX0_pairsAlike 35 = .ok (.iinc 2 1, 3) := by decide +kernel
theorem dX0_pairsAlike_38 : decode cX0_pairsAlike 38 = .ok (.iinc 3 1, 3) := by decide +kernel
theorem dX0_pairsAlike_41 : decode cX0_pairsAlike 41 = .ok (.goto (-37), 3) := by decide +kernel
theorem dX0_pairsAlike_44 : decode cX0_pairsAlike 44 = .ok (.iload_n 2, 1) := by decide +kernel
theorem dX0_pairsAlike_45 : decode cX0_pairsAlike 45 = .ok (.ireturn, 1) := by decide +kernel
set_option maxRecDepth 20000 in
theorem ggX0_isAlike_X0_neighbor : GoodIn wsX0_isAlike wsX0_neighbor := goodIn_r _ [5, 6, 7, 8, 9, 4, 10, 11, 28, 29, 30, 31, 32, 33, 34, 35] (by decide +kernel) (by decide +kernel)
set_option maxRecDepth 20000 in
theorem gX0_isAlike_X0_neighbor : GoodIn wsX0_isAlike (wsV RX0 80 RX0 yX0_neighbor wsX0_neighbor) := goodIn_app (goodIn_of _ (by decide +kernel)) ggX0_isAlike_X0_neighbor
set_option maxRecDepth 20000 in
theorem ggX0_isAlike_X0_isEmpty : GoodIn wsX0_isAlike wsX0_isEmpty := goodIn_r _ [15, 16, 28, 29, 30, 31, 32, 33, 34, 35] (by decide +kernel) (by decide +kernel)
set_option maxRecDepth 20000 in
theorem gX0_isAlike_X0_isEmpty : GoodIn wsX0_isAlike (wsV RX0 47 RX0 yX0_isEmpty wsX0_isEmpty) := goodIn_app (goodIn_of _ (by decide +kernel)) ggX0_isAlike_X0_isEmpty
set_option maxRecDepth 20000 in
theorem ggX0_isAlike_X0_lookIn : GoodIn wsX0_isAlike wsX0_lookIn := goodIn_r _ [20, 21, 16, 28, 29, 30, 31, 32, 33, 34, 35] (by decide +kernel) (by decide +kernel)
set_option maxRecDepth 20000 in
theorem gX0_isAlike_X0_lookIn : GoodIn wsX0_isAlike (wsV RX0 98 RX0 yX0_lookIn wsX0_lookIn) := goodIn_app (goodIn_of _ (by decide +kernel)) ggX0_isAlike_X0_lookIn
set_option maxRecDepth 20000 in
theorem ggX0_isAlike_X6_colorsAt : GoodIn wsX0_isAlike wsX6_colorsAt := goodIn_r _ [24, 25] (by decide +kernel) (by decide +kernel)
set_option maxRecDepth 20000 in
theorem gX0_isAlike_X6_colorsAt_n91 : GoodIn wsX0_isAlike (wsX6_colorsAt) := ggX0_isAlike_X6_colorsAt
set_option maxRecDepth 20000 in
theorem ggX0_isAlike_X6_opposite : GoodIn wsX0_isAlike wsX6_opposite := goodIn_r _ [27] (by decide +kernel) (by decide +kernel)
set_option maxRecDepth 20000 in
theorem gX0_isAlike_X6_opposite_n88 : GoodIn wsX0_isAlike (wsX6_opposite) := ggX0_isAlike_X6_opposite
theorem dX0_isAlike_0 : decode cX0_isAlike 0 = .ok (.aload_n 0, 1) := by decide +kernel
theorem dX0_isAlike_1 : decode cX0_isAlike 1 = .ok (.iload_n 1, 1) := by decide +kernel
theorem dX0_isAlike_2 : decode cX0_isAlike 2 = .ok (.iload_n 2, 1) := by decide +kernel
theorem dX0_isAlike_3 : decode cX0_isAlike 3 = .ok (.invokevirtual 80, 3) := by decide +kernel
theorem dX0_isAlike_6 : decode cX0_isAlike 6 = .ok (.istore 4, 2) := by decide +kernel
theorem dX0_isAlike_8 : decode cX0_isAlike 8 = .ok (.iload 4, 2) := by decide +kernel
theorem dX0_isAlike_10 : decode cX0_isAlike 10 = .ok (.iconst (-1), 1) := by decide +kernel
theorem dX0_isAlike_11 : decode cX0_isAlike 11 = .ok (.if_icmp .eq 20, 3) := by decide +kernel
theorem dX0_isAlike_14 : decode cX0_isAlike 14 = .ok (.aload_n 0, 1) := by decide +kernel
theorem dX0_isAlike_15 : decode cX0_isAlike 15 = .ok (.iload_n 1, 1) := by decide +kernel
theorem dX0_isAlike_16 : decode cX0_isAlike 16 = .ok (.invokevirtual 47, 3) := by decide +kernel
theorem dX0_isAlike_19 : decode cX0_isAlike 19 = .ok (.ifCond .ne 12, 3) := by decide +kernel
theorem dX0_isAlike_22 : decode cX0_isAlike 22 = .ok (.aload_n 0, 1) := by decide +kernel
theorem dX0_isAlike_23 : decode cX0_isAlike 23 = .ok (.iload 4, 2) := by decide +kernel
theorem dX0_isAlike_25 : decode cX0_isAlike 25 = .ok (.invokevirtual 47, 3) := by decide +kernel
theorem dX0_isAlike_28 : decode cX0_isAlike 28 = .ok (.ifCond .eq 5, 3) := by decide +kernel
theorem dX0_isAlike_31 : decode cX0_isAlike 31 = .ok (.iconst 0, 1) := by decide +kernel
theorem dX0_isAlike_32 : decode cX0_isAlike 32 = .ok (.ireturn, 1) := by decide +kernel
theorem dX0_isAlike_33 : decode cX0_isAlike 33 = .ok (.aload_n 0, 1) := by decide +kernel
theorem dX0_isAlike_34 : decode cX0_isAlike 34 = .ok (.iload_n 1, 1) := by decide +kernel
theorem dX0_isAlike_35 : decode cX0_isAlike 35 = .ok (.invokevirtual 98, 3) := by decide +kernel
theorem dX0_isAlike_38 : decode cX0_isAlike 38 = .ok (.iload_n 2, 1) := by decide +kernel
theorem dX0_isAlike_39 : decode cX0_isAlike 39 = .ok (.invokestatic 91, 3) := by decide +kernel
theorem dX0_isAlike_42 : decode cX0_isAlike 42 = .ok (.istore 5, 2) := by decide +kernel
theorem dX0_isAlike_44 : decode cX0_isAlike 44 = .ok (.aload_n 0, 1) := by decide +kernel
theorem dX0_isAlike_45 : decode cX0_isAlike 45 = .ok (.iload 4, 2) := by decide +kernel
theorem dX0_isAlike_47 : decode cX0_isAlike 47 = .ok (.invokevirtual 98, 3) := by decide +kernel
theorem dX0_isAlike_50 : decode cX0_isAlike 50 = .ok (.iload_n 2, 1) := by decide +kernel
theorem dX0_isAlike_51 : decode cX0_isAlike 51 = .ok (.invokestatic 88, 3) := by decide +kernel
theorem dX0_isAlike_54 : decode cX0_isAlike 54 = .ok (.invokestatic 91, 3) := by decide +kernel
theorem dX0_isAlike_57 : decode cX0_isAlike 57 = .ok (.istore 6, 2) := by decide +kernel
theorem dX0_isAlike_59 : decode cX0_isAlike 59 = .ok (.iload 5, 2) := by decide +kernel
theorem dX0_isAlike_61 : decode cX0_isAlike 61 = .ok (.iload 6, 2) := by decide +kernel
theorem dX0_isAlike_63 : decode cX0_isAlike 63 = .ok (.ixor, 1) := by decide +kernel
theorem dX0_isAlike_64 : decode cX0_isAlike 64 = .ok (.iload_n 3, 1) := by decide +kernel
theorem dX0_isAlike_65 : decode cX0_isAlike 65 = .ok (.iand, 1) := by decide +kernel
theorem dX0_isAlike_66 : decode cX0_isAlike 66 = .ok (.ifCond .ne 7, 3) := by decide +kernel
theorem dX0_isAlike_69 : decode cX0_isAlike 69 = .ok (.iconst 1, 1) := by decide +kernel
theorem dX0_isAlike_70 : decode cX0_isAlike 70 = .ok (.goto 4, 3) := by decide +kernel
theorem dX0_isAlike_73 : decode cX0_isAlike 73 = .ok (.iconst 0, 1) := by decide +kernel
theorem dX0_isAlike_74 : decode cX0_isAlike 74 = .ok (.ireturn, 1) := by decide +kernel
theorem dX1_init_0 : decode cX1_init 0 = .ok (.aload_n 0, 1) := by decide +kernel
theorem dX1_init_1 : decode cX1_init 1 = .ok (.invokespecial 1, 3) := by decide +kernel
theorem dX1_init_4 : decode cX1_init 4 = .ok (.aload_n 0, 1) := by decide +kernel
theorem dX1_init_5 : decode cX1_init 5 = .ok (.iconst 1, 1) := by decide +kernel
theorem dX1_init_6 : decode cX1_init 6 = .ok (.putfield 7, 3) := by decide +kernel
theorem dX1_init_9 : decode cX1_init 9 = .ok (.aload_n 0, 1) := by decide +kernel
theorem dX1_init_10 : decode cX1_init 10 = .ok (.iconst 1, 1) := by decide +kernel
theorem dX1_init_11 : decode cX1_init 11 = .ok (.putfield 13, 3) := by decide +kernel
theorem dX1_init_14 : decode cX1_init 14 = .ok (.aload_n 0, 1) := by decide +kernel
theorem dX1_init_15 : decode cX1_init 15 = .ok (.iconst 1, 1) := by decide +kernel
theorem dX1_init_16 : decode cX1_init 16 = .ok (.putfield 16, 3) := by decide +kernel
theorem dX1_init_19 : decode cX1_init 19 = .ok (.return_, 1) := by decide +kernel
theorem dX1_start_0 : decode cX1_start 0 = .ok (.aload_n 0, 1) := by decide +kernel
theorem dX1_start_1 : decode cX1_start 1 = .ok (.iload_n 1, 1) := by decide +kernel
theorem dX1_start_2 : decode cX1_start 2 = .ok (.putfield 7, 3) := by decide +kernel
theorem dX1_start_5 : decode cX1_start 5 = .ok (.aload_n 0, 1) := by decide +kernel
theorem dX1_start_6 : decode cX1_start 6 = .ok (.iload_n 2, 1) := by decide +kernel
theorem dX1_start_7 : decode cX1_start 7 = .ok (.iconst 1, 1) := by decide +kernel
theorem dX1_start_8 : decode cX1_start 8 = .ok (.if_icmp .ge 7, 3) := by decide +kernel
theorem dX1_start_11 : decode cX1_start 11 = .ok (.iconst 1, 1) := by decide +kernel
theorem dX1_start_12 : decode cX1_start 12 = .ok (.goto 4, 3) := by decide +kernel
theorem dX1_start_15 : decode cX1_start 15 = .ok (.iload_n 2, 1) := by decide +kernel
theorem dX1_start_16 : decode cX1_start 16 = .ok (.putfield 13, 3) := by decide +kernel
theorem dX1_start_19 : decode cX1_start 19 = .ok (.aload_n 0, 1) := by decide +kernel
theorem dX1_start_20 : decode cX1_start 20 = .ok (.iload_n 1, 1) := by decide +kernel
theorem dX1_start_21 : decode cX1_start 21 = .ok (.putfield 16, 3) := by decide +kernel
theorem dX1_start_24 : decode cX1_start 24 = .ok (.return_, 1) := by decide +kernel
theorem dX1_next_0 : decode cX1_next 0 = .ok (.iconst 1, 1) := by decide +kernel
theorem dX1_next_1 : decode cX1_next 1 = .ok (.aload_n 0, 1) := by decide +kernel
theorem dX1_next_2 : decode cX1_next 2 = .ok (.getfield 16, 3) := by decide +kernel
theorem dX1_next_5 : decode cX1_next 5 = .ok (.bipush 10, 2) := by decide +kernel
theorem dX1_next_7 : decode cX1_next 7 = .ok (.irem, 1) := by decide +kernel
theorem dX1_next_8 : decode cX1_next 8 = .ok (.aload_n 0, 1) := by decide +kernel
theorem dX1_next_9 : decode cX1_next 9 = .ok (.getfield 13, 3) := by decide +kernel
theorem dX1_next_12 : decode cX1_next 12 = .ok (.irem, 1) := by decide +kernel
theorem dX1_next_13 : decode cX1_next 13 = .ok (.iadd, 1) := by decide +kernel
theorem dX1_next_14 : decode cX1_next 14 = .ok (.istore_n 1, 1) := by decide +kernel
theorem dX1_next_15 : decode cX1_next 15 = .ok (.aload_n 0, 1) := by decide +kernel
theorem dX1_next_16 : decode cX1_next 16 = .ok (.aload_n 0, 1) := by decide +kernel
theorem dX1_next_17 : decode cX1_next 17 = .ok (.getfield 16, 3) := by decide +kernel
theorem dX1_next_20 : decode cX1_next 20 = .ok (.bipush 10, 2) := by decide +kernel
theorem dX1_next_22 : decode cX1_next 22 = .ok (.idiv, 1) := by decide +kernel
theorem dX1_next_23 : decode cX1_next 23 = .ok (.putfield 16, 3) := by decide +kernel
theorem dX1_next_26 : decode cX1_next 26 = .ok (.aload_n 0, 1) := by decide +kernel
theorem dX1_next_27 : decode cX1_next 27 = .ok (.getfield 16, 3) := by decide +kernel
theorem dX1_next_30 : decode cX1_next 30 = .ok (.ifCond .ne 11, 3) := by decide +kernel
theorem dX1_next_33 : decode cX1_next 33 = .ok (.aload_n 0, 1) := by decide +kernel
theorem dX1_next_34 : decode cX1_next 34 = .ok (.aload_n 0, 1) := by decide +kernel
theorem dX1_next_35 : decode cX1_next 35 = .ok (.getfield 7, 3) := by decide +kernel
theorem dX1_next_38 : decode cX1_next 38 = .ok (.putfield 16, 3) := by decide +kernel
theorem dX1_next_41 : decode cX1_next 41 = .ok (.iload_n 1, 1) := by decide +kernel
theorem dX1_next_42 : decode cX1_next 42 = .ok (.ireturn, 1) := by decide +kernel
set_option maxRecDepth 20000 in
theorem ggX2_init_X0_init : GoodIn wsX2_init wsX0_init := goodIn_r _ [11, 12, 2, 3, 13, 14, 15, 16, 17, 18, 19, 20, 21, 25, 26, 27, 28, 29, 30, 31, 32] (by decide +kernel) (by decide +kernel)
set_option maxRecDepth 20000 in
theorem gX2_init_X0_init_n24 : GoodIn wsX2_init (wsX0_init) := ggX2_init_X0_init
theorem dX2_init_0 : decode cX2_init 0 = .ok (.aload_n 0, 1) := by decide +kernel
theorem dX2_init_1 : decode cX2_init 1 = .ok (.invokespecial 3, 3) := by decide +kernel
theorem dX2_init_4 : decode cX2_init 4 = .ok (.aload_n 0, 1) := by decide +kernel
theorem dX2_init_5 : decode cX2_init 5 = .ok (.bipush 8, 2) := by decide +kernel
theorem dX2_init_7 : decode cX2_init 7 = .ok (.anewarray 9, 3) := by decide +kernel
theorem dX2_init_10 : decode cX2_init 10 = .ok (.putfield 11, 3) := by decide +kernel
theorem dX2_init_13 : decode cX2_init 13 = .ok (.aload_n 0, 1) := by decide +kernel
theorem dX2_init_14 : decode cX2_init 14 = .ok (.iconst 0, 1) := by decide +kernel
theorem dX2_init_15 : decode cX2_init 15 = .ok (.putfield 17, 3) := by decide +kernel
theorem dX2_init_18 : decode cX2_init 18 = .ok (.aload_n 0, 1) := by decide +kernel
theorem dX2_init_19 : decode cX2_init 19 = .ok (.iconst 0, 1) := by decide +kernel
theorem dX2_init_20 : decode cX2_init 20 = .ok (.putfield 21, 3) := by decide +kernel
theorem dX2_init_23 : decode cX2_init 23 = .ok (.iconst 0, 1) := by decide +kernel
theorem dX2_init_24 : decode cX2_init 24 = .ok (.istore_n 1, 1) := by decide +kernel
theorem dX2_init_25 : decode cX2_init 25 = .ok (.iload_n 1, 1) := by decide +kernel
theorem dX2_init_26 : decode cX2_init 26 = .ok (.bipush 8, 2) := by decide +kernel
theorem dX2_init_28 : decode cX2_init 28 = .ok (.if_icmp .ge 22, 3) := by decide +kernel
theorem dX2_init_31 : decode cX2_init 31 = .ok (.aload_n 0, 1) := by decide +kernel
theorem dX2_init_32 : decode cX2_init 32 = .ok (.getfield 11, 3) := by decide +kernel
theorem dX2_init_35 : decode cX2_init 35 = .ok (.iload_n 1, 1) := by decide +kernel
theorem dX2_init_36 : decode cX2_init 36 = .ok (.new 9, 3) := by decide +kernel
theorem dX2_init_39 : decode cX2_init 39 = .ok (.dup, 1) := by decide +kernel
theorem dX2_init_40 : decode cX2_init 40 = .ok (.invokespecial 24, 3) := by decide +kernel
theorem dX2_init_43 : decode cX2_init 43 = .ok (.aastore, 1) := by decide +kernel
theorem dX2_init_44 : decode cX2_init 44 = .ok (.iinc 1 1, 3) := by decide +kernel
theorem dX2_init_47 : decode cX2_init 47 = .ok (.goto (-22), 3) := by decide +kernel
theorem dX2_init_50 : decode cX2_init 50 = .ok (.return_, 1) := by decide +kernel
set_option maxRecDepth 20000 in
theorem ggX2_save_X0_copyFrom : GoodIn wsX2_save wsX0_copyFrom := goodIn_r _ [8, 9, 10, 11, 12, 13, 14, 15, 16, 17, 18, 19, 20, 24, 25, 26, 27, 28, 29, 30, 31] (by decide +kernel) (by decide +kernel)
set_option maxRecDepth 20000 in
theorem gX2_save_X0_copyFrom : GoodIn wsX2_save (wsV RX2 25 RX0 yX0_copyFrom wsX0_copyFrom) := goodIn_app (goodIn_of _ (by decide +kernel)) ggX2_save_X0_copyFrom
theorem dX2_save_0 : decode cX2_save 0 = .ok (.aload_n 0, 1) := by decide +kernel
theorem dX2_save_1 : decode cX2_save 1 = .ok (.getfield 21, 3) := by decide +kernel
theorem dX2_save_4 : decode cX2_save 4 = .ok (.bipush 8, 2) := by decide +kernel
theorem dX2_save_6 : decode cX2_save 6 = .ok (.if_icmp .lt 26, 3) := by decide +kernel
theorem dX2_save_9 : decode cX2_save 9 = .ok (.aload_n 0, 1) := by decide +kernel
theorem dX2_save_10 : decode cX2_save 10 = .ok (.aload_n 0, 1) := by decide +kernel
theorem dX2_save_11 : decode cX2_save 11 = .ok (.getfield 17, 3) := by decide +kernel
theorem dX2_save_14 : decode cX2_save 14 = .ok (.iconst 1, 1) := by decide +kernel
theorem dX2_save_15 : decode cX2_save 15 = .ok (.iadd, 1) := by decide +kernel
theorem dX2_save_16 : decode cX2_save 16 = .ok (.bipush 8, 2) := by decide +kernel
theorem dX2_save_18 : decode cX2_save 18 = .ok (.irem, 1) := by decide +kernel
theorem dX2_save_19 : decode cX2_save 19 = .ok (.putfield 17, 3) := by decide +kernel
theorem dX2_save_22 : decode cX2_save 22 = .ok (.aload_n 0, 1) := by decide +kernel
theorem dX2_save_23 : decode cX2_save 23 = .ok (.dup, 1) := by decide +kernel
theorem dX2_save_24 : decode cX2_save 24 = .ok (.getfield 21, 3) := by decide +kernel
theorem dX2_save_27 : decode cX2_save 27 = .ok (.iconst 1, 1) := by decide +kernel
theorem dX2_save_28 : decode cX2_save 28 = .ok (.isub, 1) := by decide +kernel
theorem dX2_save_29 : decode cX2_save 29 = .ok (.putfield 21, 3) := by decide +kernel
theorem dX2_save_32 : decode cX2_save 32 = .ok (.aload_n 0, 1) := by decide +kernel
theorem dX2_save_33 : decode cX2_save 33 = .ok (.getfield 11, 3) := by decide +kernel
theorem dX2_save_36 : decode cX2_save 36 = .ok (.aload_n 0, 1) := by decide +kernel
theorem dX2_save_37 : decode cX2_save 37 = .ok (.getfield 17, 3) := by decide +kernel
theorem dX2_save_40 : decode cX2_save 40 = .ok (.aload_n 0, 1) := by decide +kernel
theorem dX2_save_41 : decode cX2_save 41 = .ok (.getfield 21, 3) := by decide +kernel
theorem dX2_save_44 : decode cX2_save 44 = .ok (.iadd, 1) := by decide +kernel
theorem dX2_save_45 : decode cX2_save 45 = .ok (.bipush 8, 2) := by decide +kernel
theorem dX2_save_47 : decode cX2_save 47 = .ok (.irem, 1) := by decide +kernel
theorem dX2_save_48 : decode cX2_save 48 = .ok (.aaload, 1) := by decide +kernel
theorem dX2_save_49 : decode cX2_save 49 = .ok (.aload_n 1, 1) := by decide +kernel
theorem dX2_save_50 : decode cX2_save 50 = .ok (.invokevirtual 25, 3) := by decide +kernel
theorem dX2_save_53 : decode cX2_save 53 = .ok (.aload_n 0, 1) := by decide +kernel
theorem dX2_save_54 : decode cX2_save 54 = .ok (.dup, 1) := by decide +kernel
theorem dX2_save_55 : decode cX2_save 55 = .ok (.getfield 21, 3) := by decide +kernel
theorem dX2_save_58 : decode cX2_save 58 = .ok (.iconst 1, 1) := by decide +kernel
theorem dX2_save_59 : decode cX2_save 59 = .ok (.iadd, 1) := by decide +kernel
theorem dX2_save_60 : decode cX2_save 60 = .ok (.putfield 21, 3) := by decide +kernel
theorem dX2_save_63 : decode cX2_save 63 = .ok (.return_, 1) := by decide +kernel
set_option maxRecDepth 20000 in
theorem ggX2_restore_X0_copyFrom : GoodIn wsX2_restore wsX0_copyFrom := goodIn_r _ [8, 9, 10, 11, 12, 13, 14, 15, 16, 17, 18, 19, 20, 24, 25, 26, 27, 28, 29, 30, 31] (by decide +kernel) (by decide +kernel)
set_option maxRecDepth 20000 in
theorem gX2_restore_X0_copyFrom : GoodIn wsX2_restore (wsV RX2 25 RX0 yX0_copyFrom wsX0_copyFrom) := goodIn_app (goodIn_of _ (by decide +kernel)) ggX2_restore_X0_copyFrom
theorem dX2_restore_0 : decode cX2_restore 0 = .ok (.aload_n 0, 1) := by decide +kernel
theorem dX2_restore_1 : decode cX2_restore 1 = .ok (.dup, 1) := by decide +kernel
theorem dX2_restore_2 : decode cX2_restore 2 = .ok (.getfield 21, 3) := by decide +kernel
theorem dX2_restore_5 : decode cX2_restore 5 = .ok (.iconst 1, 1) := by decide +kernel
theorem dX2_restore_6 : decode cX2_restore 6 = .ok (.isub, 1) := by decide +kernel
theorem dX2_restore_7 : decode cX2_restore 7 = .ok (.putfield 21, 3) := by decide +kernel
theorem dX2_restore_10 : decode cX2_restore 10 = .ok (.aload_n 1, 1) := by decide +kernel
theorem dX2_restore_11 : decode cX2_restore 11 = .ok (.aload_n 0, 1) := by decide +kernel
theorem dX2_restore_12 : decode cX2_restore 12 = .ok (.getfield 11, 3) := by decide +kernel
theorem dX2_restore_15 : decode cX2_restore 15 = .ok (.aload_n 0, 1) := by decide +kernel
theorem dX2_restore_16 : decode cX2_restore 16 = .ok (.getfield 17, 3) := by decide +kernel
theorem dX2_restore_19 : decode cX2_restore 19 = .ok (.aload_n 0, 1) := by decide +kernel
theorem dX2_restore_20 : decode cX2_restore 20 = .ok (.getfield 21, 3) := by decide +kernel
theorem dX2_restore_23 : decode cX2_restore 23 = .ok (.iadd, 1) := by decide +kernel
theorem dX2_restore_24 : decode cX2_restore 24 = .ok (.bipush 8, 2) := by decide +kernel
theorem dX2_restore_26 : decode cX2_restore 26 = .ok (.irem, 1) := by decide +kernel
theorem dX2_restore_27 : decode cX2_restore 27 = .ok (.aaload, 1) := by decide +kernel
theorem dX2_restore_28 : decode cX2_restore 28 = .ok (.invokevirtual 25, 3) := by decide +kernel
theorem dX2_restore_31 : decode cX2_restore 31 = .ok (.return_, 1) := by decide +kernel
theorem dX3_init_0 : decode cX3_init 0 = .ok (.aload_n 0, 1) := by decide +kernel
theorem dX3_init_1 : decode cX3_init 1 = .ok (.invokespecial 3, 3) := by decide +kernel
theorem dX3_init_4 : decode cX3_init 4 = .ok (.aload_n 0, 1) := by decide +kernel
theorem dX3_init_5 : decode cX3_init 5 = .ok (.iconst 0, 1) := by decide +kernel
theorem dX3_init_6 : decode cX3_init 6 = .ok (.putfield 9, 3) := by decide +kernel
theorem dX3_init_9 : decode cX3_init 9 = .ok (.aload_n 0, 1) := by decide +kernel
theorem dX3_init_10 : decode cX3_init 10 = .ok (.iconst 0, 1) := by decide +kernel
theorem dX3_init_11 : decode cX3_init 11 = .ok (.putfield 15, 3) := by decide +kernel
theorem dX3_init_14 : decode cX3_init 14 = .ok (.aload_n 0, 1) := by decide +kernel
theorem dX3_init_15 : decode cX3_init 15 = .ok (.iconst 0, 1) := by decide +kernel
theorem dX3_init_16 : decode cX3_init 16 = .ok (.putfield 18, 3) := by decide +kernel
theorem dX3_init_19 : decode cX3_init 19 = .ok (.aload_n 0, 1) := by decide +kernel
theorem dX3_init_20 : decode cX3_init 20 = .ok (.iconst 0, 1) := by decide +kernel
theorem dX3_init_21 : decode cX3_init 21 = .ok (.putfield 21, 3) := by decide +kernel
theorem dX3_init_24 : decode cX3_init 24 = .ok (.return_, 1) := by decide +kernel
set_option maxRecDepth 20000 in
theorem ggX3_read_X3_ruledColors : GoodIn wsX3_read wsX3_ruledColors := goodIn_r _ [9, 10] (by decide +kernel) (by decide +kernel)
set_option maxRecDepth 20000 in
theorem gX3_read_X3_ruledColors : GoodIn wsX3_read (va_wsS RX3 30 yX3_ruledColors wsX3_ruledColors) := goodIn_app (goodIn_of _ (by decide +kernel)) ggX3_read_X3_ruledColors
set_option maxRecDepth 20000 in
theorem ggX3_read_X0_neighbor : GoodIn wsX3_read wsX0_neighbor := goodIn_r _ [15, 16, 17, 18, 19, 14, 20, 21, 47, 48, 49, 50, 51, 52, 53, 54] (by decide +kernel) (by decide +kernel)
set_option maxRecDepth 20000 in
theorem gX3_read_X0_neighbor : GoodIn wsX3_read (wsV RX3 34 RX0 yX0_neighbor wsX0_neighbor) := goodIn_app (goodIn_of _ (by decide +kernel)) ggX3_read_X0_neighbor
set_option maxRecDepth 20000 in
theorem ggX3_read_X0_isEmpty : GoodIn wsX3_read wsX0_isEmpty := goodIn_r _ [25, 26, 47, 48, 49, 50, 51, 52, 53, 54] (by decide +kernel) (by decide +kernel)
set_option maxRecDepth 20000 in
theorem gX3_read_X0_isEmpty : GoodIn wsX3_read (wsV RX3 38 RX0 yX0_isEmpty wsX0_isEmpty) := goodIn_app (goodIn_of _ (by decide +kernel)) ggX3_read_X0_isEmpty
set_option maxRecDepth 20000 in
theorem ggX3_read_X0_lookIn : GoodIn wsX3_read wsX0_lookIn := goodIn_r _ [30, 31, 26, 47, 48, 49, 50, 51, 52, 53, 54] (by decide +kernel) (by decide +kernel)
set_option maxRecDepth 20000 in
theorem gX3_read_X0_lookIn : GoodIn wsX3_read (wsV RX3 42 RX0 yX0_lookIn wsX0_lookIn) := goodIn_app (goodIn_of _ (by decide +kernel)) ggX3_read_X0_lookIn
set_option maxRecDepth 20000 in
theorem ggX3_read_X6_opposite : GoodIn wsX3_read wsX6_opposite := goodIn_r _ [34] (by decide +kernel) (by decide +kernel)
set_option maxRecDepth 20000 in
theorem gX3_read_X6_opposite_n45 : GoodIn wsX3_read (wsX6_opposite) := ggX3_read_X6_opposite
set_option maxRecDepth 20000 in
theorem ggX3_read_X6_colorsAt : GoodIn wsX3_read wsX6_colorsAt := goodIn_r _ [36, 37] (by decide +kernel) (by decide +kernel)
set_option maxRecDepth 20000 in
theorem gX3_read_X6_colorsAt_n48 : GoodIn wsX3_read (wsX6_colorsAt) := ggX3_read_X6_colorsAt
set_option maxRecDepth 20000 in
theorem ggX3_read_X3_readNeighbor : GoodIn wsX3_read wsX3_readNeighbor := goodIn_r _ [41, 2, 10, 3, 4, 42, 43, 44, 45, 46] (by decide +kernel) (by decide +kernel)
set_option maxRecDepth 20000 in
theorem gX3_read_X3_readNeighbor : GoodIn wsX3_read (wsV RX3 51 RX3 yX3_readNeighbor wsX3_readNeighbor) := goodIn_app (goodIn_of _ (by decide +kernel)) ggX3_read_X3_readNeighbor
theorem dX3_read_0 : decode cX3_read 0 = .ok (.aload_n 0, 1) := by decide +kernel
theorem dX3_read_1 : decode cX3_read 1 = .ok (.iconst 0, 1) := by decide +kernel
theorem dX3_read_2 : decode cX3_read 2 = .ok (.putfield 9, 3) := by decide +kernel
theorem dX3_read_5 : decode cX3_read 5 = .ok (.aload_n 0, 1) := by decide +kernel
theorem dX3_read_6 : decode cX3_read 6 = .ok (.iconst 0, 1) := by decide +kernel
theorem dX3_read_7 : decode cX3_read 7 = .ok (.putfield 15, 3) := by decide +kernel
theorem dX3_read_10 : decode cX3_read 10 = .ok (.aload_n 0, 1) := by decide +kernel
theorem dX3_read_11 : decode cX3_read 11 = .ok (.iconst 0, 1) := by decide +kernel
theorem dX3_read_12 : decode cX3_read 12 = .ok (.putfield 18, 3) := by decide +kernel
theorem dX3_read_15 : decode cX3_read 15 = .ok (.aload_n 0, 1) := by decide +kernel
theorem dX3_read_16 : decode cX3_read 16 = .ok (.iconst 0, 1) := by decide +kernel
theorem dX3_read_17 : decode cX3_read 17 = .ok (.putfield 21, 3) := by decide +kernel
theorem dX3_read_20 : decode cX3_read 20 = .ok (.aload_n 1, 1) := by decide +kernel
theorem dX3_read_21 : decode cX3_read 21 = .ok (.getfield 25, 3) := by decide +kernel
theorem dX3_read_24 : decode cX3_read 24 = .ok (.invokestatic 30, 3) := by decide +kernel
theorem dX3_read_27 : decode cX3_read 27 = .ok (.istore_n 3, 1) := by decide +kernel
theorem dX3_read_28 : decode cX3_read 28 = .ok (.iconst 0, 1) := by decide +kernel
theorem dX3_read_29 : decode cX3_read 29 = .ok (.istore 4, 2) := by decide +kernel
theorem dX3_read_31 : decode cX3_read 31 = .ok (.iload 4, 2) := by decide +kernel
theorem dX3_read_33 : decode cX3_read 33 = .ok (.iconst 4, 1) := by decide +kernel
theorem dX3_read_34 : decode cX3_read 34 = .ok (.if_icmp .ge 72, 3) := by decide +kernel
theorem dX3_read_37 : decode cX3_read 37 = .ok (.aload_n 1, 1) := by decide +kernel
theorem dX3_read_38 : decode cX3_read 38 = .ok (.iload_n 2, 1) := by decide +kernel
theorem dX3_read_39 : decode cX3_read 39 = .ok (.iload 4, 2) := by decide +kernel
theorem dX3_read_41 : decode cX3_read 41 = .ok (.invokevirtual 34, 3) := by decide +kernel
theorem dX3_read_44 : decode cX3_read 44 = .ok (.istore 5, 2) := by decide +kernel
theorem dX3_read_46 : decode cX3_read 46 = .ok (.iload 5, 2) := by decide +kernel
theorem dX3_read_48 : decode cX3_read 48 = .ok (.iconst (-1), 1) := by decide +kernel
theorem dX3_read_49 : decode cX3_read 49 = .ok (.if_icmp .ne 21, 3) := by decide +kernel
theorem dX3_read_52 : decode cX3_read 52 = .ok (.aload_n 0, 1) := by decide +kernel
theorem dX3_read_53 : decode cX3_read 53 = .ok (.dup, 1) := by decide +kernel
theorem dX3_read_54 : decode cX3_read 54 = .ok (.getfield 9, 3) := by decide +kernel
theorem dX3_read_57 : decode cX3_read 57 = .ok (.iload_n 3, 1) := by decide +kernel
theorem dX3_read_58 : decode cX3_read 58 = .ok (.iconst 4, 1) := by decide +kernel
theorem dX3_read_59 : decode cX3_read 59 = .ok (.iload 4, 2) := by decide +kernel
theorem dX3_read_61 : decode cX3_read 61 = .ok (.imul, 1) := by decide +kernel
theorem dX3_read_62 : decode cX3_read 62 = .ok (.ishl, 1) := by decide +kernel
theorem dX3_read_63 : decode cX3_read 63 = .ok (.ior, 1) := by decide +kernel
theorem dX3_read_64 : decode cX3_read 64 = .ok (.putfield 9, 3) := by decide +kernel
theorem dX3_read_67 : decode cX3_read 67 = .ok (.goto 33, 3) := by decide +kernel
theorem dX3_read_70 : decode cX3_read 70 = .ok (.aload_n 1, 1) := by decide +kernel
theorem dX3_read_71 : decode cX3_read 71 = .ok (.iload 5, 2) := by decide +kernel
theorem dX3_read_73 : decode cX3_read 73 = .ok (.invokevirtual 38, 3) := by decide +kernel
theorem dX3_read_76 : decode cX3_read 76 = .ok (.ifCond .ne 24, 3) := by decide +kernel
theorem dX3_read_79 : decode cX3_read 79 = .ok (.aload_n 0, 1) := by decide +kernel
theorem dX3_read_80 : decode cX3_read 80 = .ok (.aload_n 1, 1) := by decide +kernel
theorem dX3_read_81 : decode cX3_read 81 = .ok (.iload 5, 2) := by decide +kernel
theorem dX3_read_83 : decode cX3_read 83 = .ok (.invokevirtual 42, 3) := by decide +kernel
theorem dX3_read_86 : decode cX3_read 86 = .ok (.iload 4, 2) := by decide +kernel
theorem dX3_read_88 : decode cX3_read 88 = .ok (.invokestatic 45, 3) := by decide +kernel
theorem dX3_read_91 : decode cX3_read 91 = .ok (.invokestatic 48, 3) := by decide +kernel
theorem dX3_read_94 : decode cX3_read 94 = .ok (.iload 4, 2) := by decide +kernel
theorem dX3_read_96 : decode cX3_read 96 = .ok (.iload_n 3, 1) := by decide +kernel
theorem dX3_read_97 : decode cX3_read 97 = .ok (.invokevirtual 51, 3) := by decide +kernel
theorem dX3_read_100 : decode cX3_read 100 = .ok (.iinc 4 1, 3) := by decide +kernel
theorem dX3_read_103 : decode cX3_read 103 = .ok (.goto (-72), 3) := by decide +kernel
theorem dX3_read_106 : decode cX3_read 106 = .ok (.return_, 1) := by decide +kernel
theorem dX3_readNeighbor_0 : decode cX3_readNeighbor 0 = .ok (.aload_n 0, 1) := by decide +kernel
theorem dX3_readNeighbor_1 : decode cX3_readNeighbor 1 = .ok (.dup, 1) := by decide +kernel
theorem dX3_readNeighbor_2 : decode cX3_readNeighbor 2 = .ok (.getfield 15, 3) := by decide +kernel
theorem dX3_readNeighbor_5 : decode cX3_readNeighbor 5 = .ok (.ldc 55, 2) := by decide +kernel
theorem dX3_readNeighbor_7 : decode cX3_readNeighbor 7 = .ok (.iconst 4, 1) := by decide +kernel
theorem dX3_readNeighbor_8 : decode cX3_readNeighbor 8 = .ok (.iload_n 2, 1) := by decide +kernel
theorem dX3_readNeighbor_9 : decode cX3_readNeighbor 9 = .ok (.imul, 1) := by decide +kernel
theorem dX3_readNeighbor_10 : decode cX3_readNeighbor 10 = .ok (.ishl, 1) := by decide +kernel
theorem dX3_readNeighbor_11 : decode cX3_readNeighbor 11 = .ok (.ior, 1) := by decide +kernel
theorem dX3_readNeighbor_12 : decode cX3_readNeighbor 12 = .ok (.putfield 15, 3) := by decide +kernel
theorem dX3_readNeighbor_15 : decode cX3_readNeighbor 15 = .ok (.aload_n 0, 1) := by decide +kernel
theorem dX3_readNeighbor_16 : decode cX3_readNeighbor 16 = .ok (.dup, 1) := by decide +kernel
theorem dX3_readNeighbor_17 : decode cX3_readNeighbor 17 = .ok (.getfield 18, 3) := by decide +kernel
theorem dX3_readNeighbor_20 : decode cX3_readNeighbor 20 = .ok (.iload_n 1, 1) := by decide +kernel
theorem dX3_readNeighbor_21 : decode cX3_readNeighbor 21 = .ok (.iconst 4, 1) := by decide +kernel
theorem dX3_readNeighbor_22 : decode cX3_readNeighbor 22 = .ok (.iload_n 2, 1) := by decide +kernel
theorem dX3_readNeighbor_23 : decode cX3_readNeighbor 23 = .ok (.imul, 1) := by decide +kernel
theorem dX3_readNeighbor_24 : decode cX3_readNeighbor 24 = .ok (.ishl, 1) := by decide +kernel
theorem dX3_readNeighbor_25 : decode cX3_readNeighbor 25 = .ok (.ior, 1) := by decide +kernel
theorem dX3_readNeighbor_26 : decode cX3_readNeighbor 26 = .ok (.putfield 18, 3) := by decide +kernel
theorem dX3_readNeighbor_29 : decode cX3_readNeighbor 29 = .ok (.iload_n 3, 1) := by decide +kernel
theorem dX3_readNeighbor_30 : decode cX3_readNeighbor 30 = .ok (.bipush 15, 2) := by decide +kernel
theorem dX3_readNeighbor_32 : decode cX3_readNeighbor 32 = .ok (.iand, 1) := by decide +kernel
theorem dX3_readNeighbor_33 : decode cX3_readNeighbor 33 = .ok (.ifCond .eq 15, 3) := by decide +kernel
theorem dX3_readNeighbor_36 : decode cX3_readNeighbor 36 = .ok (.iload_n 1, 1) := by decide +kernel
theorem dX3_readNeighbor_37 : decode cX3_readNeighbor 37 = .ok (.bipush 15, 2) := by decide +kernel
theorem dX3_readNeighbor_39 : decode cX3_readNeighbor 39 = .ok (.iand, 1) := by decide +kernel
theorem dX3_readNeighbor_40 : decode cX3_readNeighbor 40 = .ok (.ifCond .ne 8, 3) := by decide +kernel
theorem dX3_readNeighbor_43 : decode cX3_readNeighbor 43 = .ok (.aload_n 0, 1) := by decide +kernel
theorem dX3_readNeighbor_44 : decode cX3_readNeighbor 44 = .ok (.iconst 1, 1) := by decide +kernel
theorem dX3_readNeighbor_45 : decode cX3_readNeighbor 45 = .ok (.putfield 21, 3) := by decide +kernel
theorem dX3_readNeighbor_48 : decode cX3_readNeighbor 48 = .ok (.iload_n 3, 1) := by decide +kernel
theorem dX3_readNeighbor_49 : decode cX3_readNeighbor 49 = .ok (.ldc 56, 2) := by decide +kernel
theorem dX3_readNeighbor_51 : decode cX3_readNeighbor 51 = .ok (.iand, 1) := by decide +kernel
theorem dX3_readNeighbor_52 : decode cX3_readNeighbor 52 = .ok (.ifCond .eq 15, 3) := by decide +kernel
theorem dX3_readNeighbor_55 : decode cX3_readNeighbor 55 = .ok (.iload_n 1, 1) := by decide +kernel
theorem dX3_readNeighbor_56 : decode cX3_readNeighbor 56 = .ok (.ldc 56, 2) := by decide +kernel
theorem dX3_readNeighbor_58 : decode cX3_readNeighbor 58 = .ok (.iand, 1) := by decide +kernel
theorem dX3_readNeighbor_59 : decode cX3_readNeighbor 59 = .ok (.ifCond .ne 8, 3) := by decide +kernel
theorem dX3_readNeighbor_62 : decode cX3_readNeighbor 62 = .ok (.aload_n 0, 1) := by decide +kernel
theorem dX3_readNeighbor_63 : decode cX3_readNeighbor 63 = .ok (.iconst 1, 1) := by decide +kernel
theorem dX3_readNeighbor_64 : decode cX3_readNeighbor 64 = .ok (.putfield 21, 3) := by decide +kernel
theorem dX3_readNeighbor_67 : decode cX3_readNeighbor 67 = .ok (.return_, 1) := by decide +kernel
theorem dX3_ruledColors_0 : decode cX3_ruledColors 0 = .ok (.iload_n 0, 1) := by decide +kernel
theorem dX3_ruledColors_1 : decode cX3_ruledColors 1 = .ok (.ifCond .ne 5, 3) := by decide +kernel
theorem dX3_ruledColors_4 : decode cX3_ruledColors 4 = .ok (.iconst 0, 1) := by decide +kernel
theorem dX3_ruledColors_5 : decode cX3_ruledColors 5 = .ok (.ireturn, 1) := by decide +kernel
theorem dX3_ruledColors_6 : decode cX3_ruledColors 6 = .ok (.iload_n 0, 1) := by decide +kernel
theorem dX3_ruledColors_7 : decode cX3_ruledColors 7 = .ok (.iconst 1, 1) := by decide +kernel
theorem dX3_ruledColors_8 : decode cX3_ruledColors 8 = .ok (.if_icmp .ne 8, 3) := by decide +kernel
theorem dX3_ruledColors_11 : decode cX3_ruledColors 11 = .ok (.bipush 15, 2) := by decide +kernel
theorem dX3_ruledColors_13 : decode cX3_ruledColors 13 = .ok (.goto 5, 3) := by decide +kernel
theorem dX3_ruledColors_16 : decode cX3_ruledColors 16 = .ok (.ldc 55, 2) := by decide +kernel
theorem dX3_ruledColors_18 : decode cX3_ruledColors 18 = .ok (.ireturn, 1) := by decide +kernel
theorem dX3_reasonAgainst_0 : decode cX3_reasonAgainst 0 = .ok (.iload_n 1, 1) := by decide +kernel
theorem dX3_reasonAgainst_1 : decode cX3_reasonAgainst 1 = .ok (.aload_n 0, 1) := by decide +kernel
theorem dX3_reasonAgainst_2 : decode cX3_reasonAgainst 2 = .ok (.getfield 9, 3) := by decide +kernel
theorem dX3_reasonAgainst_5 : decode cX3_reasonAgainst 5 = .ok (.iand, 1) := by decide +kernel
theorem dX3_reasonAgainst_6 : decode cX3_reasonAgainst 6 = .ok (.ifCond .eq 5, 3) := by decide +kernel
theorem dX3_reasonAgainst_9 : decode cX3_reasonAgainst 9 = .ok (.iconst 3, 1) := by decide +kernel
theorem dX3_reasonAgainst_10 : decode cX3_reasonAgainst 10 = .ok (.ireturn, 1) := by decide +kernel
theorem dX3_reasonAgainst_11 : decode cX3_reasonAgainst 11 = .ok (.iload_n 1, 1) := by decide +kernel
theorem dX3_reasonAgainst_12 : decode cX3_reasonAgainst 12 = .ok (.aload_n 0, 1) := by decide +kernel
theorem dX3_reasonAgainst_13 : decode cX3_reasonAgainst 13 = .ok (.getfield 18, 3) := by decide +kernel
theorem dX3_reasonAgainst_16 : decode cX3_reasonAgainst 16 = .ok (.ixor, 1) := by decide +kernel
theorem dX3_reasonAgainst_17 : decode cX3_reasonAgainst 17 = .ok (.aload_n 0, 1) := by decide +kernel
theorem dX3_reasonAgainst_18 : decode cX3_reasonAgainst 18 = .ok (.getfield 15, 3) := by decide +kernel
theorem dX3_reasonAgainst_21 : decode cX3_reasonAgainst 21 = .ok (.iand, 1) := by decide +kernel
theorem dX3_reasonAgainst_22 : decode cX3_reasonAgainst 22 = .ok (.istore_n 2, 1) := by decide +kernel
theorem dX3_reasonAgainst_23 : decode cX3_reasonAgainst 23 = .ok (.iload_n 2, 1) := by decide +kernel
theorem dX3_reasonAgainst_24 : decode cX3_reasonAgainst 24 = .ok (.ldc 57, 2) := by decide +kernel
theorem dX3_reasonAgainst_26 : decode cX3_reasonAgainst 26 = .ok (.iand, 1) := by decide +kernel
theorem dX3_reasonAgainst_27 : decode cX3_reasonAgainst 27 = .ok (.ifCond .eq 5, 3) := by decide +kernel
theorem dX3_reasonAgainst_30 : decode cX3_reasonAgainst 30 = .ok (.iconst 4, 1) := by decide +kernel
theorem dX3_reasonAgainst_31 : decode cX3_reasonAgainst 31 = .ok (.ireturn, 1) := by decide +kernel
theorem dX3_reasonAgainst_32 : decode cX3_reasonAgainst 32 = .ok (.iload_n 2, 1) := by decide +kernel
theorem dX3_reasonAgainst_33 : decode cX3_reasonAgainst 33 = .ok (.ifCond .eq 5, 3) := by decide +kernel
theorem dX3_reasonAgainst_36 : decode cX3_reasonAgainst 36 = .ok (.iconst 5, 1) := by decide +kernel
theorem dX3_reasonAgainst_37 : decode cX3_reasonAgainst 37 = .ok (.ireturn, 1) := by decide +kernel
theorem dX3_reasonAgainst_38 : decode cX3_reasonAgainst 38 = .ok (.aload_n 0, 1) := by decide +kernel
theorem dX3_reasonAgainst_39 : decode cX3_reasonAgainst 39 = .ok (.getfield 21, 3) := by decide +kernel
theorem dX3_reasonAgainst_42 : decode cX3_reasonAgainst 42 = .ok (.ifCond .eq 8, 3) := by decide +kernel
theorem dX3_reasonAgainst_45 : decode cX3_reasonAgainst 45 = .ok (.bipush 6, 2) := by decide +kernel
theorem dX3_reasonAgainst_47 : decode cX3_reasonAgainst 47 = .ok (.goto 4, 3) := by decide +kernel
theorem dX3_reasonAgainst_50 : decode cX3_reasonAgainst 50 = .ok (.iconst 0, 1) := by decide +kernel
theorem dX3_reasonAgainst_51 : decode cX3_reasonAgainst 51 = .ok (.ireturn, 1) := by decide +kernel
set_option maxRecDepth 20000 in
theorem ggX4_init_X0_init : GoodIn wsX4_init wsX0_init := goodIn_r _ [18, 19, 2, 3, 20, 21, 22, 23, 24, 25, 26, 27, 28, 36, 37, 38, 39, 40, 41, 42, 43] (by decide +kernel) (by decide +kernel)
set_option maxRecDepth 20000 in
theorem gX4_init_X0_init_n11 : GoodIn wsX4_init (wsX0_init) := ggX4_init_X0_init
set_option maxRecDepth 20000 in
theorem ggX4_init_X3_init : GoodIn wsX4_init wsX3_init := goodIn_r _ [30, 31, 2, 3, 32, 33, 34, 35, 51, 52, 53, 54] (by decide +kernel) (by decide +kernel)
set_option maxRecDepth 20000 in
theorem gX4_init_X3_init_n41 : GoodIn wsX4_init (wsX3_init) := ggX4_init_X3_init
theorem dX4_init_0 : decode cX4_init 0 = .ok (.aload_n 0, 1) := by decide +kernel
theorem dX4_init_1 : decode cX4_init 1 = .ok (.invokespecial 3, 3) := by decide +kernel
theorem dX4_init_4 : decode cX4_init 4 = .ok (.aload_n 0, 1) := by decide +kernel
theorem dX4_init_5 : decode cX4_init 5 = .ok (.new 9, 3) := by decide +kernel
theorem dX4_init_8 : decode cX4_init 8 = .ok (.dup, 1) := by decide +kernel
theorem dX4_init_9 : decode cX4_init 9 = .ok (.invokespecial 11, 3) := by decide +kernel
theorem dX4_init_12 : decode cX4_init 12 = .ok (.putfield 12, 3) := by decide +kernel
theorem dX4_init_15 : decode cX4_init 15 = .ok (.aload_n 0, 1) := by decide +kernel
theorem dX4_init_16 : decode cX4_init 16 = .ok (.iconst 0, 1) := by decide +kernel
theorem dX4_init_17 : decode cX4_init 17 = .ok (.putfield 18, 3) := by decide +kernel
theorem dX4_init_20 : decode cX4_init 20 = .ok (.aload_n 0, 1) := by decide +kernel
theorem dX4_init_21 : decode cX4_init 21 = .ok (.bipush 12, 2) := by decide +kernel
theorem dX4_init_23 : decode cX4_init 23 = .ok (.anewarray 22, 3) := by decide +kernel
theorem dX4_init_26 : decode cX4_init 26 = .ok (.putfield 24, 3) := by decide +kernel
theorem dX4_init_29 : decode cX4_init 29 = .ok (.aload_n 0, 1) := by decide +kernel
theorem dX4_init_30 : decode cX4_init 30 = .ok (.iconst 0, 1) := by decide +kernel
theorem dX4_init_31 : decode cX4_init 31 = .ok (.putfield 28, 3) := by decide +kernel
theorem dX4_init_34 : decode cX4_init 34 = .ok (.aload_n 0, 1) := by decide +kernel
theorem dX4_init_35 : decode cX4_init 35 = .ok (.iconst 0, 1) := by decide +kernel
theorem dX4_init_36 : decode cX4_init 36 = .ok (.putfield 31, 3) := by decide +kernel
theorem dX4_init_39 : decode cX4_init 39 = .ok (.aload_n 0, 1) := by decide +kernel
theorem dX4_init_40 : decode cX4_init 40 = .ok (.iconst 0, 1) := by decide +kernel
theorem dX4_init_41 : decode cX4_init 41 = .ok (.putfield 34, 3) := by decide +kernel
theorem dX4_init_44 : decode cX4_init 44 = .ok (.aload_n 0, 1) := by decide +kernel
theorem dX4_init_45 : decode cX4_init 45 = .ok (.iconst 0, 1) := by decide +kernel
theorem dX4_init_46 : decode cX4_init 46 = .ok (.putfield 38, 3) := by decide +kernel
theorem dX4_init_49 : decode cX4_init 49 = .ok (.iconst 0, 1) := by decide +kernel
theorem dX4_init_50 : decode cX4_init 50 = .ok (.istore_n 1, 1) := by decide +kernel
theorem dX4_init_51 : decode cX4_init 51 = .ok (.iload_n 1, 1) := by decide +kernel
theorem dX4_init_52 : decode cX4_init 52 = .ok (.bipush 12, 2) := by decide +kernel
theorem dX4_init_54 : decode cX4_init 54 = .ok (.if_icmp .ge 22, 3) := by decide +kernel
theorem dX4_init_57 : decode cX4_init 57 = .ok (.aload_n 0, 1) := by decide +kernel
theorem dX4_init_58 : decode cX4_init 58 = .ok (.getfield 24, 3) := by decide +kernel
theorem dX4_init_61 : decode cX4_init 61 = .ok (.iload_n 1, 1) := by decide +kernel
theorem dX4_init_62 : decode cX4_init 62 = .ok (.new 22, 3) := by decide +kernel
theorem dX4_init_65 : decode cX4_init 65 = .ok (.dup, 1) := by decide +kernel
theorem dX4_init_66 : decode cX4_init 66 = .ok (.invokespecial 41, 3) := by decide +kernel
theorem dX4_init_69 : decode cX4_init 69 = .ok (.aastore, 1) := by decide +kernel
theorem dX4_init_70 : decode cX4_init 70 = .ok (.iinc 1 1, 3) := by decide +kernel
theorem dX4_init_73 : decode cX4_init 73 = .ok (.goto (-22), 3) := by decide +kernel
theorem dX4_init_76 : decode cX4_init 76 = .ok (.return_, 1) := by decide +kernel
set_option maxRecDepth 20000 in
theorem ggX4_run_X0_copyFrom : GoodIn wsX4_run wsX0_copyFrom := goodIn_r _ [6, 7, 8, 9, 10, 11, 12, 13, 14, 15, 16, 17, 18, 107, 108, 109, 110, 111, 112, 113, 114] (by decide +kernel) (by decide +kernel)
set_option maxRecDepth 20000 in
theorem gX4_run_X0_copyFrom : GoodIn wsX4_run (wsV RX4 42 RX0 yX0_copyFrom wsX0_copyFrom) := goodIn_app (goodIn_of _ (by decide +kernel)) ggX4_run_X0_copyFrom
set_option maxRecDepth 20000 in
theorem ggX4_run_X4_runTrial : GoodIn wsX4_run wsX4_runTrial := goodIn_r _ [23, 24, 25, 26, 27, 28, 29, 30, 31, 22, 32, 1, 33, 34, 35, 36, 37, 38, 5, 39, 7, 8, 40, 41, 42, 43, 12, 44, 45, 46, 47, 48, 49, 50, 51, 52, 53, 54, 55, 56, 57, 58, 59, 60, 61, 62, 63, 64, 65, 66, 67, 18, 68, 69, 70, 71, 72, 73, 74, 75, 76, 77, 78, 79, 80, 81, 82, 17, 83, 84, 85, 86, 87, 88, 89, 90, 91, 92, 93, 94, 95, 96, 97, 98, 99, 100, 101, 102, 103, 104, 105, 106, 107, 108, 109, 110, 111, 112, 113, 114, 115, 116, 117, 118] (by decide +kernel) (by decide +kernel)
set_option maxRecDepth 20000 in
theorem gX4_run_X4_runTrial : GoodIn wsX4_run (wsV RX4 46 RX4 yX4_runTrial wsX4_runTrial) := goodIn_app (goodIn_of _ (by decide +kernel)) ggX4_run_X4_runTrial
theorem dX4_run_0 : decode cX4_run 0 = .ok (.aload_n 0, 1) := by decide +kernel
theorem dX4_run_1 : decode cX4_run 1 = .ok (.getfield 12, 3) := by decide +kernel
theorem dX4_run_4 : decode cX4_run 4 = .ok (.aload_n 1, 1) := by decide +kernel
theorem dX4_run_5 : decode cX4_run 5 = .ok (.invokevirtual 42, 3) := by decide +kernel
theorem dX4_run_8 : decode cX4_run 8 = .ok (.aload_n 0, 1) := by decide +kernel
theorem dX4_run_9 : decode cX4_run 9 = .ok (.iload_n 2, 1) := by decide +kernel
theorem dX4_run_10 : decode cX4_run 10 = .ok (.invokevirtual 46, 3) := by decide +kernel
theorem dX4_run_13 : decode cX4_run 13 = .ok (.return_, 1) := by decide +kernel
theorem dX4_result_0 : decode cX4_result 0 = .ok (.iload_n 1, 1) := by decide +kernel
theorem dX4_result_1 : decode cX4_result 1 = .ok (.lookupswitch 37 #[(0, 27), (1, 32)], 27) := by decide +kernel
theorem dX4_result_28 : decode cX4_result 28 = .ok (.aload_n 0, 1) := by decide +kernel
theorem dX4_result_29 : decode cX4_result 29 = .ok (.getfield 18, 3) := by decide +kernel
theorem dX4_result_32 : decode cX4_result 32 = .ok (.ireturn, 1) := by decide +kernel
theorem dX4_result_33 : decode cX4_result 33 = .ok (.aload_n 0, 1) := by decide +kernel
theorem dX4_result_34 : decode cX4_result 34 = .ok (.getfield 31, 3) := by decide +kernel
theorem dX4_result_37 : decode cX4_result 37 = .ok (.ireturn, 1) := by decide +kernel
theorem dX4_result_38 : decode cX4_result 38 = .ok (.aload_n 0, 1) := by decide +kernel
theorem dX4_result_39 : decode cX4_result 39 = .ok (.getfield 34, 3) := by decide +kernel
theorem dX4_result_42 : decode cX4_result 42 = .ok (.ifCond .eq 7, 3) := by decide +kernel
theorem dX4_result_45 : decode cX4_result 45 = .ok (.iconst 1, 1) := by decide +kernel
theorem dX4_result_46 : decode cX4_result 46 = .ok (.goto 4, 3) := by decide +kernel
theorem dX4_result_49 : decode cX4_result 49 = .ok (.iconst 0, 1) := by decide +kernel
theorem dX4_result_50 : decode cX4_result 50 = .ok (.ireturn, 1) := by decide +kernel
set_option maxRecDepth 20000 in
theorem ggX4_runTrial_X4_fillFrom : GoodIn wsX4_runTrial wsX4_fillFrom := goodIn_r _ [10, 11, 2, 1, 5, 12, 13, 14, 15, 16, 17, 18, 19, 20, 21, 22, 23, 24, 25, 26, 27, 28, 29, 30, 31, 32, 33, 34, 35, 36, 37, 38, 39, 40, 41, 42, 43, 44, 45, 46, 47, 48, 49, 50, 51, 52, 53, 54, 55, 56, 57, 58, 59, 60, 61, 62, 63, 64, 65, 66, 67, 68, 69, 70, 71, 72, 73, 74, 75, 9, 76, 3, 4, 77, 78, 79, 80, 6, 7, 8, 81, 82, 83, 84, 85, 86, 87, 88, 89, 90, 91, 92, 93, 94, 95, 96, 97, 98, 99, 100, 101, 102, 103] (by decide +kernel) (by decide +kernel)
set_option maxRecDepth 20000 in
theorem gX4_runTrial_X4_fillFrom : GoodIn wsX4_runTrial (wsV RX4 54 RX4 yX4_fillFrom wsX4_fillFrom) := goodIn_app (goodIn_of _ (by decide +kernel)) ggX4_runTrial_X4_fillFrom
theorem dX4_runTrial_0 : decode cX4_runTrial 0 = .ok (.aload_n 0, 1) := by decide +kernel
theorem dX4_runTrial_1 : decode cX4_runTrial 1 = .ok (.iload_n 1, 1) := by decide +kernel
theorem dX4_runTrial_2 : decode cX4_runTrial 2 = .ok (.putfield 28, 3) := by decide +kernel
theorem dX4_runTrial_5 : decode cX4_runTrial 5 = .ok (.aload_n 0, 1) := by decide +kernel
theorem dX4_runTrial_6 : decode cX4_runTrial 6 = .ok (.iconst 0, 1) := by decide +kernel
theorem dX4_runTrial_7 : decode cX4_runTrial 7 = .ok (.putfield 18, 3) := by decide +kernel
theorem dX4_runTrial_10 : decode cX4_runTrial 10 = .ok (.aload_n 0, 1) := by decide +kernel
theorem dX4_runTrial_11 : decode cX4_runTrial 11 = .ok (.iconst 0, 1) := by decide +kernel
theorem dX4_runTrial_12 : decode cX4_runTrial 12 = .ok (.putfield 31, 3) := by decide +kernel
theorem dX4_runTrial_15 : decode cX4_runTrial 15 = .ok (.aload_n 0, 1) := by decide +kernel
theorem dX4_runTrial_16 : decode cX4_runTrial 16 = .ok (.iconst 0, 1) := by decide +kernel
theorem dX4_runTrial_17 : decode cX4_runTrial 17 = .ok (.putfield 34, 3) := by decide +kernel
theorem dX4_runTrial_20 : decode cX4_runTrial 20 = .ok (.aload_n 0, 1) := by decide +kernel
theorem dX4_runTrial_21 : decode cX4_runTrial 21 = .ok (.iconst 0, 1) := by decide +kernel
theorem dX4_runTrial_22 : decode cX4_runTrial 22 = .ok (.putfield 38, 3) := by decide +kernel
theorem dX4_runTrial_25 : decode cX4_runTrial 25 = .ok (.aload_n 0, 1) := by decide +kernel
theorem dX4_runTrial_26 : decode cX4_runTrial 26 = .ok (.iconst 0, 1) := by decide +kernel
theorem dX4_runTrial_27 : decode cX4_runTrial 27 = .ok (.invokevirtual 54, 3) := by decide +kernel
theorem dX4_runTrial_30 : decode cX4_runTrial 30 = .ok (.return_, 1) := by decide +kernel
set_option maxRecDepth 20000 in
theorem ggX4_fillFrom_X0_cells : GoodIn wsX4_fillFrom wsX0_cells := goodIn_r _ [12, 13, 14, 91, 92, 93, 94, 95, 96, 97, 98] (by decide +kernel) (by decide +kernel)
set_option maxRecDepth 20000 in
theorem gX4_fillFrom_X0_cells : GoodIn wsX4_fillFrom (wsV RX4 57 RX0 yX0_cells wsX0_cells) := goodIn_app (goodIn_of _ (by decide +kernel)) ggX4_fillFrom_X0_cells
set_option maxRecDepth 20000 in
theorem ggX4_fillFrom_X0_isEmpty : GoodIn wsX4_fillFrom wsX0_isEmpty := goodIn_r _ [18, 19, 91, 92, 93, 94, 95, 96, 97, 98] (by decide +kernel) (by decide +kernel)
set_option maxRecDepth 20000 in
theorem gX4_fillFrom_X0_isEmpty : GoodIn wsX4_fillFrom (wsV RX4 61 RX0 yX0_isEmpty wsX0_isEmpty) := goodIn_app (goodIn_of _ (by decide +kernel)) ggX4_fillFrom_X0_isEmpty
set_option maxRecDepth 20000 in
theorem ggX4_fillFrom_X3_read : GoodIn wsX4_fillFrom wsX3_read := goodIn_r _ [24, 25, 26, 27, 28, 29, 30, 31, 23, 32, 33, 34, 35, 36, 11, 37, 14, 38, 9, 10, 12, 13, 39, 16, 17, 18, 19, 40, 41, 42, 43, 44, 45, 46, 47, 48, 49, 50, 51, 52, 53, 54, 55, 99, 100, 101, 102, 91, 92, 93, 94, 95, 96, 97, 98] (by decide +kernel) (by decide +kernel)
set_option maxRecDepth 20000 in
theorem gX4_fillFrom_X3_read : GoodIn wsX4_fillFrom (wsV RX4 65 RX3 yX3_read wsX3_read) := goodIn_app (goodIn_of _ (by decide +kernel)) ggX4_fillFrom_X3_read
end
section
set_option maxRecDepth 20000 in
theorem ggX4_fillFrom_X0_isLaid : GoodIn wsX4_fillFrom wsX0_isLaid := goodIn_r _ [59, 60, 91, 92, 93, 94, 95, 96, 97, 98] (by decide +kernel) (by decide +kernel)
set_option maxRecDepth 20000 in
theorem gX4_fillFrom_X0_isLaid : GoodIn wsX4_fillFrom (wsV RX4 72 RX0 yX0_isLaid wsX0_isLaid) := goodIn_app (goodIn_of _ (by decide +kernel)) ggX4_fillFrom_X0_isLaid
set_option maxRecDepth 20000 in
theorem ggX4_fillFrom_X3_reasonAgainst : GoodIn wsX4_fillFrom wsX3_reasonAgainst := goodIn_r _ [64, 25, 27, 26, 65, 28, 99, 100, 101, 102] (by decide +kernel) (by decide +kernel)
set_option maxRecDepth 20000 in
theorem gX4_fillFrom_X3_reasonAgainst : GoodIn wsX4_fillFrom (wsV RX4 79 RX3 yX3_reasonAgainst wsX3_reasonAgainst) := goodIn_app (goodIn_of _ (by decide +kernel)) ggX4_fillFrom_X3_reasonAgainst
set_option maxRecDepth 20000 in
theorem ggX4_fillFrom_X4_tryPlacing : GoodIn wsX4_fillFrom wsX4_tryPlacing := goodIn_r _ [70, 71, 72, 4, 1, 73, 74, 75, 11, 76, 19, 60, 77, 78, 79, 69, 80, 81, 82, 83, 0, 2, 3, 5, 6, 7, 8, 9, 10, 12, 13, 14, 15, 16, 17, 18, 20, 21, 22, 23, 24, 25, 26, 27, 28, 29, 30, 31, 32, 33, 34, 35, 36, 37, 38, 39, 40, 41, 42, 43, 44, 45, 46, 47, 48, 49, 50, 51, 52, 53, 54, 55, 56, 57, 58, 59, 61, 62, 63, 64, 65, 66, 67, 68, 84, 85, 86, 87, 88, 89, 90, 91, 92, 93, 94, 95, 96, 97, 98, 99, 100, 101, 102] (by decide +kernel) (by decide +kernel)
set_option maxRecDepth 20000 in
theorem gX4_fillFrom_X4_tryPlacing : GoodIn wsX4_fillFrom (wsV RX4 82 RX4 yX4_tryPlacing wsX4_tryPlacing) := goodIn_app (goodIn_of _ (by decide +kernel)) ggX4_fillFrom_X4_tryPlacing
theorem dX4_fillFrom_0 : decode cX4_fillFrom 0 = .ok (.iload_n 1, 1) := by decide +kernel
theorem dX4_fillFrom_1 : decode cX4_fillFrom 1 = .ok (.istore_n 2, 1) := by decide +kernel
theorem dX4_fillFrom_2 : decode cX4_fillFrom 2 = .ok (.iload_n 2, 1) := by decide +kernel
theorem dX4_fillFrom_3 : decode cX4_fillFrom 3 = .ok (.aload_n 0, 1) := by decide +kernel
theorem dX4_fillFrom_4 : decode cX4_fillFrom 4 = .ok (.getfield 12, 3) := by decide +kernel
theorem dX4_fillFrom_7 : decode cX4_fillFrom 7 = .ok (.invokevirtual 57, 3) := by decide +kernel
theorem dX4_fillFrom_10 : decode cX4_fillFrom 10 = .ok (.if_icmp .ge 20, 3) := by decide +kernel
theorem dX4_fillFrom_13 : decode cX4_fillFrom 13 = .ok (.aload_n 0, 1) := by decide +kernel
theorem dX4_fillFrom_14 : decode cX4_fillFrom 14 = .ok (.getfield 12, 3) := by decide +kernel
theorem dX4_fillFrom_17 : decode cX4_fillFrom 17 = .ok (.iload_n 2, 1) := by decide +kernel
theorem dX4_fillFrom_18 : decode cX4_fillFrom 18 = .ok (.invokevirtual 61, 3) := by decide +kernel
theorem dX4_fillFrom_21 : decode cX4_fillFrom 21 = .ok (.ifCond .ne 9, 3) := by decide +kernel
theorem dX4_fillFrom_24 : decode cX4_fillFrom 24 = .ok (.iinc 2 1, 3) := by decide +kernel
theorem dX4_fillFrom_27 : decode cX4_fillFrom 27 = .ok (.goto (-25), 3) := by decide +kernel
theorem dX4_fillFrom_30 : decode cX4_fillFrom 30 = .ok (.iload_n 2, 1) := by decide +kernel
theorem dX4_fillFrom_31 : decode cX4_fillFrom 31 = .ok (.aload_n 0, 1) := by decide +kernel
theorem dX4_fillFrom_32 : decode cX4_fillFrom 32 = .ok (.getfield 12, 3) := by decide +kernel
theorem dX4_fillFrom_35 : decode cX4_fillFrom 35 = .ok (.invokevirtual 57, 3) := by decide +kernel
theorem dX4_fillFrom_38 : decode cX4_fillFrom 38 = .ok (.if_icmp .lt 34, 3) := by decide +kernel
theorem dX4_fillFrom_41 : decode cX4_fillFrom 41 = .ok (.aload_n 0, 1) := by decide +kernel
theorem dX4_fillFrom_42 : decode cX4_fillFrom 42 = .ok (.dup, 1) := by decide +kernel
theorem dX4_fillFrom_43 : decode cX4_fillFrom 43 = .ok (.getfield 18, 3) := by decide +kernel
theorem dX4_fillFrom_46 : decode cX4_fillFrom 46 = .ok (.iconst 1, 1) := by decide +kernel
theorem dX4_fillFrom_47 : decode cX4_fillFrom 47 = .ok (.iadd, 1) := by decide +kernel
theorem dX4_fillFrom_48 : decode cX4_fillFrom 48 = .ok (.putfield 18, 3) := by decide +kernel
theorem dX4_fillFrom_51 : decode cX4_fillFrom 51 = .ok (.aload_n 0, 1) := by decide +kernel
theorem dX4_fillFrom_52 : decode cX4_fillFrom 52 = .ok (.aload_n 0, 1) := by decide +kernel
theorem dX4_fillFrom_53 : decode cX4_fillFrom 53 = .ok (.getfield 18, 3) := by decide +kernel
theorem dX4_fillFrom_56 : decode cX4_fillFrom 56 = .ok (.aload_n 0, 1) := by decide +kernel
theorem dX4_fillFrom_57 : decode cX4_fillFrom 57 = .ok (.getfield 28, 3) := by decide +kernel
theorem dX4_fillFrom_60 : decode cX4_fillFrom 60 = .ok (.if_icmp .lt 7, 3) := by decide +kernel
theorem dX4_fillFrom_63 : decode cX4_fillFrom 63 = .ok (.iconst 1, 1) := by decide +kernel
theorem dX4_fillFrom_64 : decode cX4_fillFrom 64 = .ok (.goto 4, 3) := by decide +kernel
theorem dX4_fillFrom_67 : decode cX4_fillFrom 67 = .ok (.iconst 0, 1) := by decide +kernel
theorem dX4_fillFrom_68 : decode cX4_fillFrom 68 = .ok (.putfield 38, 3) := by decide +kernel
theorem dX4_fillFrom_71 : decode cX4_fillFrom 71 = .ok (.return_, 1) := by decide +kernel
theorem dX4_fillFrom_72 : decode cX4_fillFrom 72 = .ok (.aload_n 0, 1) := by decide +kernel
theorem dX4_fillFrom_73 : decode cX4_fillFrom 73 = .ok (.getfield 24, 3) := by decide +kernel
theorem dX4_fillFrom_76 : decode cX4_fillFrom 76 = .ok (.iload_n 2, 1) := by decide +kernel
theorem dX4_fillFrom_77 : decode cX4_fillFrom 77 = .ok (.aaload, 1) := by decide +kernel
theorem dX4_fillFrom_78 : decode cX4_fillFrom 78 = .ok (.aload_n 0, 1) := by decide +kernel
theorem dX4_fillFrom_79 : decode cX4_fillFrom 79 = .ok (.getfield 12, 3) := by decide +kernel
theorem dX4_fillFrom_82 : decode cX4_fillFrom 82 = .ok (.iload_n 2, 1) := by decide +kernel
theorem dX4_fillFrom_83 : decode cX4_fillFrom 83 = .ok (.invokevirtual 65, 3) := by decide +kernel
theorem dX4_fillFrom_86 : decode cX4_fillFrom 86 = .ok (.iconst 0, 1) := by decide +kernel
theorem dX4_fillFrom_87 : decode cX4_fillFrom 87 = .ok (.istore_n 3, 1) := by decide +kernel
theorem dX4_fillFrom_88 : decode cX4_fillFrom 88 = .ok (.iload_n 3, 1) := by decide +kernel
theorem dX4_fillFrom_89 : decode cX4_fillFrom 89 = .ok (.aload_n 0, 1) := by decide +kernel
theorem dX4_fillFrom_90 : decode cX4_fillFrom 90 = .ok (.getfield 12, 3) := by decide +kernel
theorem dX4_fillFrom_93 : decode cX4_fillFrom 93 = .ok (.getfield 69, 3) := by decide +kernel
theorem dX4_fillFrom_96 : decode cX4_fillFrom 96 = .ok (.if_icmp .ge 98, 3) := by decide +kernel
theorem dX4_fillFrom_99 : decode cX4_fillFrom 99 = .ok (.aload_n 0, 1) := by decide +kernel
theorem dX4_fillFrom_100 : decode cX4_fillFrom 100 = .ok (.getfield 38, 3) := by decide +kernel
theorem dX4_fillFrom_103 : decode cX4_fillFrom 103 = .ok (.ifCond .ne 91, 3) := by decide +kernel
theorem dX4_fillFrom_106 : decode cX4_fillFrom 106 = .ok (.bipush 8, 2) := by decide +kernel
theorem dX4_fillFrom_108 : decode cX4_fillFrom 108 = .ok (.iload_n 3, 1) := by decide +kernel
theorem dX4_fillFrom_109 : decode cX4_fillFrom 109 = .ok (.imul, 1) := by decide +kernel
theorem dX4_fillFrom_110 : decode cX4_fillFrom 110 = .ok (.istore 4, 2) := by decide +kernel
theorem dX4_fillFrom_112 : decode cX4_fillFrom 112 = .ok (.aload_n 0, 1) := by decide +kernel
theorem dX4_fillFrom_113 : decode cX4_fillFrom 113 = .ok (.getfield 12, 3) := by decide +kernel
theorem dX4_fillFrom_116 : decode cX4_fillFrom 116 = .ok (.iload_n 3, 1) := by decide +kernel
theorem dX4_fillFrom_117 : decode cX4_fillFrom 117 = .ok (.invokevirtual 72, 3) := by decide +kernel
theorem dX4_fillFrom_120 : decode cX4_fillFrom 120 = .ok (.ifCond .eq 8, 3) := by decide +kernel
theorem dX4_fillFrom_123 : decode cX4_fillFrom 123 = .ok (.iload 4, 2) := by decide +kernel
theorem dX4_fillFrom_125 : decode cX4_fillFrom 125 = .ok (.goto 8, 3) := by decide +kernel
theorem dX4_fillFrom_128 : decode cX4_fillFrom 128 = .ok (.iload 4, 2) := by decide +kernel
theorem dX4_fillFrom_130 : decode cX4_fillFrom 130 = .ok (.bipush 8, 2) := by decide +kernel
theorem dX4_fillFrom_132 : decode cX4_fillFrom 132 = .ok (.iadd, 1) := by decide +kernel
theorem dX4_fillFrom_133 : decode cX4_fillFrom 133 = .ok (.istore 5, 2) := by decide +kernel
theorem dX4_fillFrom_135 : decode cX4_fillFrom 135 = .ok (.iload 4, 2) := by decide +kernel
theorem dX4_fillFrom_137 : decode cX4_fillFrom 137 = .ok (.istore 6, 2) := by decide +kernel
theorem dX4_fillFrom_139 : decode cX4_fillFrom 139 = .ok (.iload 6, 2) := by decide +kernel
theorem dX4_fillFrom_141 : decode cX4_fillFrom 141 = .ok (.iload 5, 2) := by decide +kernel
theorem dX4_fillFrom_143 : decode cX4_fillFrom 143 = .ok (.if_icmp .ge 45, 3) := by decide +kernel
theorem dX4_fillFrom_146 : decode cX4_fillFrom 146 = .ok (.aload_n 0, 1) := by decide +kernel
theorem dX4_fillFrom_147 : decode cX4_fillFrom 147 = .ok (.getfield 38, 3) := by decide +kernel
theorem dX4_fillFrom_150 : decode cX4_fillFrom 150 = .ok (.ifCond .ne 38, 3) := by decide +kernel
theorem dX4_fillFrom_153 : decode cX4_fillFrom 153 = .ok (.aload_n 0, 1) := by decide +kernel
theorem dX4_fillFrom_154 : decode cX4_fillFrom 154 = .ok (.getfield 24, 3) := by decide +kernel
theorem dX4_fillFrom_157 : decode cX4_fillFrom 157 = .ok (.iload_n 2, 1) := by decide +kernel
theorem dX4_fillFrom_158 : decode cX4_fillFrom 158 = .ok (.aaload, 1) := by decide +kernel
theorem dX4_fillFrom_159 : decode cX4_fillFrom 159 = .ok (.aload_n 0, 1) := by decide +kernel
theorem dX4_fillFrom_160 : decode cX4_fillFrom 160 = .ok (.getfield 12, 3) := by decide +kernel
theorem dX4_fillFrom_163 : decode cX4_fillFrom 163 = .ok (.getfield 75, 3) := by decide +kernel
theorem dX4_fillFrom_166 : decode cX4_fillFrom 166 = .ok (.iload 6, 2) := by decide +kernel
theorem dX4_fillFrom_168 : decode cX4_fillFrom 168 = .ok (.iaload, 1) := by decide +kernel
theorem dX4_fillFrom_169 : decode cX4_fillFrom 169 = .ok (.invokevirtual 79, 3) := by decide +kernel
theorem dX4_fillFrom_172 : decode cX4_fillFrom 172 = .ok (.ifCond .ne 10, 3) := by decide +kernel
theorem dX4_fillFrom_175 : decode cX4_fillFrom 175 = .ok (.aload_n 0, 1) := by decide +kernel
theorem dX4_fillFrom_176 : decode cX4_fillFrom 176 = .ok (.iload_n 2, 1) := by decide +kernel
theorem dX4_fillFrom_177 : decode cX4_fillFrom 177 = .ok (.iload 6, 2) := by decide +kernel
theorem dX4_fillFrom_179 : decode cX4_fillFrom 179 = .ok (.invokevirtual 82, 3) := by decide +kernel
theorem dX4_fillFrom_182 : decode cX4_fillFrom 182 = .ok (.iinc 6 1, 3) := by decide +kernel
theorem dX4_fillFrom_185 : decode cX4_fillFrom 185 = .ok (.goto (-46), 3) := by decide +kernel
theorem dX4_fillFrom_188 : decode cX4_fillFrom 188 = .ok (.iinc 3 1, 3) := by decide +kernel
theorem dX4_fillFrom_191 : decode cX4_fillFrom 191 = .ok (.goto (-103), 3) := by decide +kernel
theorem dX4_fillFrom_194 : decode cX4_fillFrom 194 = .ok (.return_, 1) := by decide +kernel
set_option maxRecDepth 20000 in
theorem ggX4_tryPlacing_X0_put : GoodIn wsX4_tryPlacing wsX0_put := goodIn_r _ [9, 10, 11, 91, 92, 93, 94, 95, 96, 97, 98] (by decide +kernel) (by decide +kernel)
set_option maxRecDepth 20000 in
theorem gX4_tryPlacing_X0_put : GoodIn wsX4_tryPlacing (wsV RX4 86 RX0 yX0_put wsX0_put) := goodIn_app (goodIn_of _ (by decide +kernel)) ggX4_tryPlacing_X0_put
set_option maxRecDepth 20000 in
theorem ggX4_tryPlacing_X4_fillFrom : GoodIn wsX4_tryPlacing wsX4_fillFrom := goodIn_r _ [20, 4, 21, 22, 3, 23, 24, 25, 26, 27, 28, 8, 29, 30, 31, 32, 33, 34, 35, 10, 36, 37, 38, 39, 40, 41, 42, 43, 44, 45, 46, 47, 48, 49, 50, 51, 52, 53, 54, 55, 56, 57, 58, 59, 60, 61, 62, 63, 64, 65, 66, 67, 68, 69, 70, 71, 72, 73, 74, 75, 11, 76, 77, 78, 79, 80, 81, 82, 83, 15, 0, 1, 2, 5, 6, 7, 9, 12, 13, 14, 16, 17, 18, 19, 84, 85, 86, 87, 88, 89, 90, 91, 92, 93, 94, 95, 96, 97, 98, 99, 100, 101, 102] (by decide +kernel) (by decide +kernel)
set_option maxRecDepth 20000 in
theorem gX4_tryPlacing_X4_fillFrom : GoodIn wsX4_tryPlacing (wsV RX4 54 RX4 yX4_fillFrom wsX4_fillFrom) := goodIn_app (goodIn_of _ (by decide +kernel)) ggX4_tryPlacing_X4_fillFrom
set_option maxRecDepth 20000 in
theorem ggX4_tryPlacing_X0_remove : GoodIn wsX4_tryPlacing wsX0_remove := goodIn_r _ [19, 11, 10, 91, 92, 93, 94, 95, 96, 97, 98] (by decide +kernel) (by decide +kernel)
set_option maxRecDepth 20000 in
theorem gX4_tryPlacing_X0_remove : GoodIn wsX4_tryPlacing (wsV RX4 89 RX0 yX0_remove wsX0_remove) := goodIn_app (goodIn_of _ (by decide +kernel)) ggX4_tryPlacing_X0_remove
theorem dX4_tryPlacing_0 : decode cX4_tryPlacing 0 = .ok (.aload_n 0, 1) := by decide +kernel
theorem dX4_tryPlacing_1 : decode cX4_tryPlacing 1 = .ok (.getfield 31, 3) := by decide +kernel
theorem dX4_tryPlacing_4 : decode cX4_tryPlacing 4 = .ok (.sipush 600, 3) := by decide +kernel
theorem dX4_tryPlacing_7 : decode cX4_tryPlacing 7 = .ok (.if_icmp .lt 14, 3) := by decide +kernel
theorem dX4_tryPlacing_10 : decode cX4_tryPlacing 10 = .ok (.aload_n 0, 1) := by decide +kernel
theorem dX4_tryPlacing_11 : decode cX4_tryPlacing 11 = .ok (.iconst 1, 1) := by decide +kernel
theorem dX4_tryPlacing_12 : decode cX4_tryPlacing 12 = .ok (.putfield 34, 3) := by decide +kernel
theorem dX4_tryPlacing_15 : decode cX4_tryPlacing 15 = .ok (.aload_n 0, 1) := by decide +kernel
theorem dX4_tryPlacing_16 : decode cX4_tryPlacing 16 = .ok (.iconst 1, 1) := by decide +kernel
theorem dX4_tryPlacing_17 : decode cX4_tryPlacing 17 = .ok (.putfield 38, 3) := by decide +kernel
theorem dX4_tryPlacing_20 : decode cX4_tryPlacing 20 = .ok (.return_, 1) := by decide +kernel
theorem dX4_tryPlacing_21 : decode cX4_tryPlacing 21 = .ok (.aload_n 0, 1) := by decide +kernel
theorem dX4_tryPlacing_22 : decode cX4_tryPlacing 22 = .ok (.dup, 1) := by decide +kernel
theorem dX4_tryPlacing_23 : decode cX4_tryPlacing 23 = .ok (.getfield 31, 3) := by decide +kernel
theorem dX4_tryPlacing_26 : decode cX4_tryPlacing 26 = .ok (.iconst 1, 1) := by decide +kernel
theorem dX4_tryPlacing_27 : decode cX4_tryPlacing 27 = .ok (.iadd, 1) := by decide +kernel
theorem dX4_tryPlacing_28 : decode cX4_tryPlacing 28 = .ok (.putfield 31, 3) := by decide +kernel
theorem dX4_tryPlacing_31 : decode cX4_tryPlacing 31 = .ok (.aload_n 0, 1) := by decide +kernel
theorem dX4_tryPlacing_32 : decode cX4_tryPlacing 32 = .ok (.getfield 12, 3) := by decide +kernel
theorem dX4_tryPlacing_35 : decode cX4_tryPlacing 35 = .ok (.iload_n 1, 1) := by decide +kernel
theorem dX4_tryPlacing_36 : decode cX4_tryPlacing 36 = .ok (.iload_n 2, 1) := by decide +kernel
theorem dX4_tryPlacing_37 : decode cX4_tryPlacing 37 = .ok (.invokevirtual 86, 3) := by decide +kernel
theorem dX4_tryPlacing_40 : decode cX4_tryPlacing 40 = .ok (.aload_n 0, 1) := by decide +kernel
theorem dX4_tryPlacing_41 : decode cX4_tryPlacing 41 = .ok (.iload_n 1, 1) := by decide +kernel
theorem dX4_tryPlacing_42 : decode cX4_tryPlacing 42 = .ok (.iconst 1, 1) := by decide +kernel
theorem dX4_tryPlacing_43 : decode cX4_tryPlacing 43 = .ok (.iadd, 1) := by decide +kernel
theorem dX4_tryPlacing_44 : decode cX4_tryPlacing 44 = .ok (.invokevirtual 54, 3) := by decide +kernel
theorem dX4_tryPlacing_47 : decode cX4_tryPlacing 47 = .ok (.aload_n 0, 1) := by decide +kernel
theorem dX4_tryPlacing_48 : decode cX4_tryPlacing 48 = .ok (.getfield 38, 3) := by decide +kernel
theorem dX4_tryPlacing_51 : decode cX4_tryPlacing 51 = .ok (.ifCond .ne 11, 3) := by decide +kernel
theorem dX4_tryPlacing_54 : decode cX4_tryPlacing 54 = .ok (.aload_n 0, 1) := by decide +kernel
theorem dX4_tryPlacing_55 : decode cX4_tryPlacing 55 = .ok (.getfield 12, 3) := by decide +kernel
theorem dX4_tryPlacing_58 : decode cX4_tryPlacing 58 = .ok (.iload_n 1, 1) := by decide +kernel
theorem dX4_tryPlacing_59 : decode cX4_tryPlacing 59 = .ok (.invokevirtual 89, 3) := by decide +kernel
theorem dX4_tryPlacing_62 : decode cX4_tryPlacing 62 = .ok (.return_, 1) := by decide +kernel
theorem dX5_init_0 : decode cX5_init 0 = .ok (.aload_n 0, 1) := by decide +kernel
theorem dX5_init_1 : decode cX5_init 1 = .ok (.invokespecial 3, 3) := by decide +kernel
theorem dX5_init_4 : decode cX5_init 4 = .ok (.aload_n 0, 1) := by decide +kernel
theorem dX5_init_5 : decode cX5_init 5 = .ok (.bipush 60, 2) := by decide +kernel
theorem dX5_init_7 : decode cX5_init 7 = .ok (.newarray .int, 2) := by decide +kernel
theorem dX5_init_9 : decode cX5_init 9 = .ok (.putfield 9, 3) := by decide +kernel
theorem dX5_init_12 : decode cX5_init 12 = .ok (.aload_n 0, 1) := by decide +kernel
theorem dX5_init_13 : decode cX5_init 13 = .ok (.iconst 0, 1) := by decide +kernel
theorem dX5_init_14 : decode cX5_init 14 = .ok (.putfield 15, 3) := by decide +kernel
theorem dX5_init_17 : decode cX5_init 17 = .ok (.return_, 1) := by decide +kernel
set_option maxRecDepth 20000 in
theorem ggX6_init_X0_init : GoodIn wsX6_init wsX0_init := goodIn_r _ [29, 30, 2, 3, 31, 32, 33, 34, 35, 36, 37, 38, 39, 83, 84, 85, 86, 87, 88, 89, 90] (by decide +kernel) (by decide +kernel)
set_option maxRecDepth 20000 in
theorem gX6_init_X0_init_n11 : GoodIn wsX6_init (wsX0_init) := ggX6_init_X0_init
set_option maxRecDepth 20000 in
theorem ggX6_init_X2_init : GoodIn wsX6_init wsX2_init := goodIn_r _ [42, 43, 2, 3, 44, 45, 46, 47, 5, 6, 28, 29, 30, 31, 32, 33, 34, 35, 36, 37, 38, 39, 97, 98, 99, 83, 84, 85, 86, 87, 88, 89, 90] (by decide +kernel) (by decide +kernel)
set_option maxRecDepth 20000 in
theorem gX6_init_X2_init : GoodIn wsX6_init (wsX2_init) := ggX6_init_X2_init
set_option maxRecDepth 20000 in
theorem ggX6_init_X5_init : GoodIn wsX6_init wsX5_init := goodIn_r _ [49, 50, 2, 3, 36, 51, 52, 100, 101] (by decide +kernel) (by decide +kernel)
set_option maxRecDepth 20000 in
theorem gX6_init_X5_init_n25 : GoodIn wsX6_init (wsX5_init) := ggX6_init_X5_init
set_option maxRecDepth 20000 in
theorem ggX6_init_X3_init : GoodIn wsX6_init wsX3_init := goodIn_r _ [54, 55, 2, 3, 56, 57, 58, 59, 102, 103, 104, 105] (by decide +kernel) (by decide +kernel)
set_option maxRecDepth 20000 in
theorem gX6_init_X3_init_n32 : GoodIn wsX6_init (wsX3_init) := ggX6_init_X3_init
set_option maxRecDepth 20000 in
theorem ggX6_init_X4_init : GoodIn wsX6_init wsX4_init := goodIn_r _ [62, 63, 2, 3, 64, 5, 6, 65, 66, 67, 68, 69, 70, 71, 72, 17, 18, 28, 29, 30, 31, 32, 33, 34, 35, 36, 37, 38, 39, 53, 54, 55, 56, 57, 58, 59, 83, 84, 85, 86, 87, 88, 89, 90, 106, 107, 108, 109, 110, 111, 112, 102, 103, 104, 105] (by decide +kernel) (by decide +kernel)
set_option maxRecDepth 20000 in
theorem gX6_init_X4_init : GoodIn wsX6_init (wsX4_init) := ggX6_init_X4_init
set_option maxRecDepth 20000 in
theorem ggX6_init_X1_init : GoodIn wsX6_init wsX1_init := goodIn_r _ [74, 75, 2, 3, 76, 77, 78, 113, 114, 115] (by decide +kernel) (by decide +kernel)
set_option maxRecDepth 20000 in
theorem gX6_init_X1_init_n46 : GoodIn wsX6_init (wsX1_init) := ggX6_init_X1_init
set_option maxRecDepth 20000 in
theorem ggX6_init_X0_makeEmpty : GoodIn wsX6_init wsX0_makeEmpty := goodIn_r _ [82, 31, 32, 35, 37, 38, 83, 84, 85, 86, 87, 88, 89, 90] (by decide +kernel) (by decide +kernel)
set_option maxRecDepth 20000 in
theorem gX6_init_X0_makeEmpty : GoodIn wsX6_init (wsV RX6 51 RX0 yX0_makeEmpty wsX0_makeEmpty) := goodIn_app (goodIn_of _ (by decide +kernel)) ggX6_init_X0_makeEmpty
theorem dX6_init_0 : decode cX6_init 0 = .ok (.aload_n 0, 1) := by decide +kernel
theorem dX6_init_1 : decode cX6_init 1 = .ok (.invokespecial 3, 3) := by decide +kernel
theorem dX6_init_4 : decode cX6_init 4 = .ok (.aload_n 0, 1) := by decide +kernel
theorem dX6_init_5 : decode cX6_init 5 = .ok (.new 9, 3) := by decide +kernel
theorem dX6_init_8 : decode cX6_init 8 = .ok (.dup, 1) := by decide +kernel
theorem dX6_init_9 : decode cX6_init 9 = .ok (.invokespecial 11, 3) := by decide +kernel
theorem dX6_init_12 : decode cX6_init 12 = .ok (.putfield 12, 3) := by decide +kernel
theorem dX6_init_15 : decode cX6_init 15 = .ok (.aload_n 0, 1) := by decide +kernel
theorem dX6_init_16 : decode cX6_init 16 = .ok (.new 16, 3) := by decide +kernel
theorem dX6_init_19 : decode cX6_init 19 = .ok (.dup, 1) := by decide +kernel
theorem dX6_init_20 : decode cX6_init 20 = .ok (.invokespecial 18, 3) := by decide +kernel
theorem dX6_init_23 : decode cX6_init 23 = .ok (.putfield 19, 3) := by decide +kernel
theorem dX6_init_26 : decode cX6_init 26 = .ok (.aload_n 0, 1) := by decide +kernel
theorem dX6_init_27 : decode cX6_init 27 = .ok (.new 23, 3) := by decide +kernel
theorem dX6_init_30 : decode cX6_init 30 = .ok (.dup, 1) := by decide +kernel
theorem dX6_init_31 : decode cX6_init 31 = .ok (.invokespecial 25, 3) := by decide +kernel
theorem dX6_init_34 : decode cX6_init 34 = .ok (.putfield 26, 3) := by decide +kernel
theorem dX6_init_37 : decode cX6_init 37 = .ok (.aload_n 0, 1) := by decide +kernel
theorem dX6_init_38 : decode cX6_init 38 = .ok (.new 30, 3) := by decide +kernel
theorem dX6_init_41 : decode cX6_init 41 = .ok (.dup, 1) := by decide +kernel
theorem dX6_init_42 : decode cX6_init 42 = .ok (.invokespecial 32, 3) := by decide +kernel
theorem dX6_init_45 : decode cX6_init 45 = .ok (.putfield 33, 3) := by decide +kernel
theorem dX6_init_48 : decode cX6_init 48 = .ok (.aload_n 0, 1) := by decide +kernel
theorem dX6_init_49 : decode cX6_init 49 = .ok (.new 37, 3) := by decide +kernel
theorem dX6_init_52 : decode cX6_init 52 = .ok (.dup, 1) := by decide +kernel
theorem dX6_init_53 : decode cX6_init 53 = .ok (.invokespecial 39, 3) := by decide +kernel
theorem dX6_init_56 : decode cX6_init 56 = .ok (.putfield 40, 3) := by decide +kernel
theorem dX6_init_59 : decode cX6_init 59 = .ok (.aload_n 0, 1) := by decide +kernel
theorem dX6_init_60 : decode cX6_init 60 = .ok (.new 44, 3) := by decide +kernel
theorem dX6_init_63 : decode cX6_init 63 = .ok (.dup, 1) := by decide +kernel
theorem dX6_init_64 : decode cX6_init 64 = .ok (.invokespecial 46, 3) := by decide +kernel
theorem dX6_init_67 : decode cX6_init 67 = .ok (.putfield 47, 3) := by decide +kernel
theorem dX6_init_70 : decode cX6_init 70 = .ok (.aload_n 0, 1) := by decide +kernel
theorem dX6_init_71 : decode cX6_init 71 = .ok (.getfield 12, 3) := by decide +kernel
theorem dX6_init_74 : decode cX6_init 74 = .ok (.iconst 2, 1) := by decide +kernel
theorem dX6_init_75 : decode cX6_init 75 = .ok (.iconst 2, 1) := by decide +kernel
theorem dX6_init_76 : decode cX6_init 76 = .ok (.invokevirtual 51, 3) := by decide +kernel
theorem dX6_init_79 : decode cX6_init 79 = .ok (.return_, 1) := by decide +kernel
set_option maxRecDepth 20000 in
theorem ggX6_begin_X2_save : GoodIn wsX6_begin wsX2_save := goodIn_r _ [9, 10, 11, 12, 13, 14, 15, 16, 17, 18, 19, 20, 21, 22, 23, 24, 25, 26, 27, 28, 29, 44, 45, 46, 47, 48, 49, 50, 51, 52, 53, 54] (by decide +kernel) (by decide +kernel)
set_option maxRecDepth 20000 in
theorem gX6_begin_X2_save : GoodIn wsX6_begin (wsV RX6 62 RX2 yX2_save wsX2_save) := goodIn_app (goodIn_of _ (by decide +kernel)) ggX6_begin_X2_save
set_option maxRecDepth 20000 in
theorem ggX6_begin_X0_makeEmpty : GoodIn wsX6_begin wsX0_makeEmpty := goodIn_r _ [33, 18, 19, 22, 23, 28, 47, 48, 49, 50, 51, 52, 53, 54] (by decide +kernel) (by decide +kernel)
set_option maxRecDepth 20000 in
theorem gX6_begin_X0_makeEmpty : GoodIn wsX6_begin (wsV RX6 51 RX0 yX0_makeEmpty wsX0_makeEmpty) := goodIn_app (goodIn_of _ (by decide +kernel)) ggX6_begin_X0_makeEmpty
set_option maxRecDepth 20000 in
theorem ggX6_begin_X0_cells : GoodIn wsX6_begin wsX0_cells := goodIn_r _ [37, 18, 19, 47, 48, 49, 50, 51, 52, 53, 54] (by decide +kernel) (by decide +kernel)
set_option maxRecDepth 20000 in
theorem gX6_begin_X0_cells : GoodIn wsX6_begin (wsV RX6 66 RX0 yX0_cells wsX0_cells) := goodIn_app (goodIn_of _ (by decide +kernel)) ggX6_begin_X0_cells
theorem dX6_begin_0 : decode cX6_begin 0 = .ok (.iload_n 1, 1) := by decide +kernel
theorem dX6_begin_1 : decode cX6_begin 1 = .ok (.iconst 1, 1) := by decide +kernel
theorem dX6_begin_2 : decode cX6_begin 2 = .ok (.if_icmp .lt 18, 3) := by decide +kernel
theorem dX6_begin_5 : decode cX6_begin 5 = .ok (.iload_n 1, 1) := by decide +kernel
theorem dX6_begin_6 : decode cX6_begin 6 = .ok (.iconst 3, 1) := by decide +kernel
theorem dX6_begin_7 : decode cX6_begin 7 = .ok (.if_icmp .gt 13, 3) := by decide +kernel
theorem dX6_begin_10 : decode cX6_begin 10 = .ok (.iload_n 2, 1) := by decide +kernel
theorem dX6_begin_11 : decode cX6_begin 11 = .ok (.iconst 1, 1) := by decide +kernel
theorem dX6_begin_12 : decode cX6_begin 12 = .ok (.if_icmp .lt 8, 3) := by decide +kernel
theorem dX6_begin_15 : decode cX6_begin 15 = .ok (.iload_n 2, 1) := by decide +kernel
theorem dX6_begin_16 : decode cX6_begin 16 = .ok (.iconst 4, 1) := by decide +kernel
theorem dX6_begin_17 : decode cX6_begin 17 = .ok (.if_icmp .le 13, 3) := by decide +kernel
theorem dX6_begin_20 : decode cX6_begin 20 = .ok (.new 55, 3) := by decide +kernel
theorem dX6_begin_23 : decode cX6_begin 23 = .ok (.dup, 1) := by decide +kernel
theorem dX6_begin_24 : decode cX6_begin 24 = .ok (.ldc 57, 2) := by decide +kernel
theorem dX6_begin_26 : decode cX6_begin 26 = .ok (.invokespecial 59, 3) := by decide +kernel
theorem dX6_begin_29 : decode cX6_begin 29 = .ok (.athrow, 1) := by decide +kernel
theorem dX6_begin_30 : decode cX6_begin 30 = .ok (.aload_n 0, 1) := by decide +kernel
theorem dX6_begin_31 : decode cX6_begin 31 = .ok (.getfield 19, 3) := by decide +kernel
theorem dX6_begin_34 : decode cX6_begin 34 = .ok (.aload_n 0, 1) := by decide +kernel
theorem dX6_begin_35 : decode cX6_begin 35 = .ok (.getfield 12, 3) := by decide +kernel
theorem dX6_begin_38 : decode cX6_begin 38 = .ok (.invokevirtual 62, 3) := by decide +kernel
theorem dX6_begin_41 : decode cX6_begin 41 = .ok (.aload_n 0, 1) := by decide +kernel
theorem dX6_begin_42 : decode cX6_begin 42 = .ok (.getfield 12, 3) := by decide +kernel
theorem dX6_begin_45 : decode cX6_begin 45 = .ok (.iload_n 1, 1) := by decide +kernel
theorem dX6_begin_46 : decode cX6_begin 46 = .ok (.iload_n 2, 1) := by decide +kernel
theorem dX6_begin_47 : decode cX6_begin 47 = .ok (.invokevirtual 51, 3) := by decide +kernel
theorem dX6_begin_50 : decode cX6_begin 50 = .ok (.aload_n 0, 1) := by decide +kernel
theorem dX6_begin_51 : decode cX6_begin 51 = .ok (.getfield 12, 3) := by decide +kernel
theorem dX6_begin_54 : decode cX6_begin 54 = .ok (.invokevirtual 66, 3) := by decide +kernel
theorem dX6_begin_57 : decode cX6_begin 57 = .ok (.ireturn, 1) := by decide +kernel
set_option maxRecDepth 20000 in
theorem ggX6_addTile_X2_save : GoodIn wsX6_addTile wsX2_save := goodIn_r _ [12, 13, 14, 15, 16, 17, 18, 19, 20, 21, 22, 23, 24, 25, 26, 27, 28, 29, 30, 31, 32, 72, 73, 74, 64, 65, 66, 67, 68, 69, 70, 71] (by decide +kernel) (by decide +kernel)
set_option maxRecDepth 20000 in
theorem gX6_addTile_X2_save : GoodIn wsX6_addTile (wsV RX6 62 RX2 yX2_save wsX2_save) := goodIn_app (goodIn_of _ (by decide +kernel)) ggX6_addTile_X2_save
set_option maxRecDepth 20000 in
theorem ggX6_addTile_X0_addFaces : GoodIn wsX6_addTile wsX0_addFaces := goodIn_r _ [36, 32, 24, 37, 38, 39, 40, 41, 42, 43, 44, 45, 46, 47, 48, 19, 49, 50, 51, 52, 53, 54, 55, 56, 57, 64, 65, 66, 67, 68, 69, 70, 71] (by decide +kernel) (by decide +kernel)
set_option maxRecDepth 20000 in
theorem gX6_addTile_X0_addFaces : GoodIn wsX6_addTile (wsV RX6 81 RX0 yX0_addFaces wsX0_addFaces) := goodIn_app (goodIn_of _ (by decide +kernel)) ggX6_addTile_X0_addFaces
theorem dX6_addTile_0 : decode cX6_addTile 0 = .ok (.iload_n 1, 1) := by decide +kernel
theorem dX6_addTile_1 : decode cX6_addTile 1 = .ok (.ifCond .lt 21, 3) := by decide +kernel
theorem dX6_addTile_4 : decode cX6_addTile 4 = .ok (.iload_n 1, 1) := by decide +kernel
theorem dX6_addTile_5 : decode cX6_addTile 5 = .ok (.sipush 9999, 3) := by decide +kernel
theorem dX6_addTile_8 : decode cX6_addTile 8 = .ok (.if_icmp .gt 14, 3) := by decide +kernel
theorem dX6_addTile_11 : decode cX6_addTile 11 = .ok (.iload_n 2, 1) := by decide +kernel
theorem dX6_addTile_12 : decode cX6_addTile 12 = .ok (.ifCond .lt 10, 3) := by decide +kernel
theorem dX6_addTile_15 : decode cX6_addTile 15 = .ok (.iload_n 2, 1) := by decide +kernel
theorem dX6_addTile_16 : decode cX6_addTile 16 = .ok (.sipush 9999, 3) := by decide +kernel
theorem dX6_addTile_19 : decode cX6_addTile 19 = .ok (.if_icmp .le 13, 3) := by decide +kernel
theorem dX6_addTile_22 : decode cX6_addTile 22 = .ok (.new 55, 3) := by decide +kernel
theorem dX6_addTile_25 : decode cX6_addTile 25 = .ok (.dup, 1) := by decide +kernel
theorem dX6_addTile_26 : decode cX6_addTile 26 = .ok (.ldc 70, 2) := by decide +kernel
theorem dX6_addTile_28 : decode cX6_addTile 28 = .ok (.invokespecial 59, 3) := by decide +kernel
theorem dX6_addTile_31 : decode cX6_addTile 31 = .ok (.athrow, 1) := by decide +kernel
theorem dX6_addTile_32 : decode cX6_addTile 32 = .ok (.aload_n 0, 1) := by decide +kernel
theorem dX6_addTile_33 : decode cX6_addTile 33 = .ok (.getfield 12, 3) := by decide +kernel
theorem dX6_addTile_36 : decode cX6_addTile 36 = .ok (.getfield 72, 3) := by decide +kernel
theorem dX6_addTile_39 : decode cX6_addTile 39 = .ok (.bipush 12, 2) := by decide +kernel
theorem dX6_addTile_41 : decode cX6_addTile 41 = .ok (.if_icmp .lt 13, 3) := by decide +kernel
theorem dX6_addTile_44 : decode cX6_addTile 44 = .ok (.new 76, 3) := by decide +kernel
theorem dX6_addTile_47 : decode cX6_addTile 47 = .ok (.dup, 1) := by decide +kernel
theorem dX6_addTile_48 : decode cX6_addTile 48 = .ok (.ldc 78, 2) := by decide +kernel
theorem dX6_addTile_50 : decode cX6_addTile 50 = .ok (.invokespecial 80, 3) := by decide +kernel
theorem dX6_addTile_53 : decode cX6_addTile 53 = .ok (.athrow, 1) := by decide +kernel
theorem dX6_addTile_54 : decode cX6_addTile 54 = .ok (.aload_n 0, 1) := by decide +kernel
theorem dX6_addTile_55 : decode cX6_addTile 55 = .ok (.getfield 19, 3) := by decide +kernel
theorem dX6_addTile_58 : decode cX6_addTile 58 = .ok (.aload_n 0, 1) := by decide +kernel
theorem dX6_addTile_59 : decode cX6_addTile 59 = .ok (.getfield 12, 3) := by decide +kernel
theorem dX6_addTile_62 : decode cX6_addTile 62 = .ok (.invokevirtual 62, 3) := by decide +kernel
theorem dX6_addTile_65 : decode cX6_addTile 65 = .ok (.aload_n 0, 1) := by decide +kernel
theorem dX6_addTile_66 : decode cX6_addTile 66 = .ok (.getfield 12, 3) := by decide +kernel
theorem dX6_addTile_69 : decode cX6_addTile 69 = .ok (.iload_n 1, 1) := by decide +kernel
theorem dX6_addTile_70 : decode cX6_addTile 70 = .ok (.iload_n 2, 1) := by decide +kernel
theorem dX6_addTile_71 : decode cX6_addTile 71 = .ok (.invokevirtual 81, 3) := by decide +kernel
theorem dX6_addTile_74 : decode cX6_addTile 74 = .ok (.aload_n 0, 1) := by decide +kernel
theorem dX6_addTile_75 : decode cX6_addTile 75 = .ok (.getfield 12, 3) := by decide +kernel
theorem dX6_addTile_78 : decode cX6_addTile 78 = .ok (.getfield 72, 3) := by decide +kernel
theorem dX6_addTile_81 : decode cX6_addTile 81 = .ok (.iconst 1, 1) := by decide +kernel
theorem dX6_addTile_82 : decode cX6_addTile 82 = .ok (.isub, 1) := by decide +kernel
theorem dX6_addTile_83 : decode cX6_addTile 83 = .ok (.ireturn, 1) := by decide +kernel
set_option maxRecDepth 20000 in
theorem ggX6_dropTile_X0_isLaid : GoodIn wsX6_dropTile wsX0_isLaid := goodIn_r _ [10, 11, 41, 42, 43, 44, 45, 46, 47, 48] (by decide +kernel) (by decide +kernel)
set_option maxRecDepth 20000 in
theorem gX6_dropTile_X0_isLaid : GoodIn wsX6_dropTile (wsV RX6 84 RX0 yX0_isLaid wsX0_isLaid) := goodIn_app (goodIn_of _ (by decide +kernel)) ggX6_dropTile_X0_isLaid
set_option maxRecDepth 20000 in
theorem ggX6_dropTile_X2_save : GoodIn wsX6_dropTile wsX2_save := goodIn_r _ [16, 17, 18, 19, 20, 21, 22, 9, 23, 24, 25, 26, 27, 28, 29, 30, 31, 32, 33, 11, 34, 49, 50, 51, 41, 42, 43, 44, 45, 46, 47, 48] (by decide +kernel) (by decide +kernel)
set_option maxRecDepth 20000 in
theorem gX6_dropTile_X2_save : GoodIn wsX6_dropTile (wsV RX6 62 RX2 yX2_save wsX2_save) := goodIn_app (goodIn_of _ (by decide +kernel)) ggX6_dropTile_X2_save
theorem dX6_dropTile_0 : decode cX6_dropTile 0 = .ok (.aload_n 0, 1) := by decide +kernel
theorem dX6_dropTile_1 : decode cX6_dropTile 1 = .ok (.getfield 12, 3) := by decide +kernel
theorem dX6_dropTile_4 : decode cX6_dropTile 4 = .ok (.getfield 72, 3) := by decide +kernel
theorem dX6_dropTile_7 : decode cX6_dropTile 7 = .ok (.iconst 1, 1) := by decide +kernel
theorem dX6_dropTile_8 : decode cX6_dropTile 8 = .ok (.if_icmp .lt 22, 3) := by decide +kernel
theorem dX6_dropTile_11 : decode cX6_dropTile 11 = .ok (.aload_n 0, 1) := by decide +kernel
theorem dX6_dropTile_12 : decode cX6_dropTile 12 = .ok (.getfield 12, 3) := by decide +kernel
theorem dX6_dropTile_15 : decode cX6_dropTile 15 = .ok (.aload_n 0, 1) := by decide +kernel
theorem dX6_dropTile_16 : decode cX6_dropTile 16 = .ok (.getfield 12, 3) := by decide +kernel
theorem dX6_dropTile_19 : decode cX6_dropTile 19 = .ok (.getfield 72, 3) := by decide +kernel
theorem dX6_dropTile_22 : decode cX6_dropTile 22 = .ok (.iconst 1, 1) := by decide +kernel
theorem dX6_dropTile_23 : decode cX6_dropTile 23 = .ok (.isub, 1) := by decide +kernel
theorem dX6_dropTile_24 : decode cX6_dropTile 24 = .ok (.invokevirtual 84, 3) := by decide +kernel
theorem dX6_dropTile_27 : decode cX6_dropTile 27 = .ok (.ifCond .eq 13, 3) := by decide +kernel
theorem dX6_dropTile_30 : decode cX6_dropTile 30 = .ok (.new 76, 3) := by decide +kernel
theorem dX6_dropTile_33 : decode cX6_dropTile 33 = .ok (.dup, 1) := by decide +kernel
theorem dX6_dropTile_34 : decode cX6_dropTile 34 = .ok (.ldc 88, 2) := by decide +kernel
theorem dX6_dropTile_36 : decode cX6_dropTile 36 = .ok (.invokespecial 80, 3) := by decide +kernel
theorem dX6_dropTile_39 : decode cX6_dropTile 39 = .ok (.athrow, 1) := by decide +kernel
theorem dX6_dropTile_40 : decode cX6_dropTile 40 = .ok (.aload_n 0, 1) := by decide +kernel
theorem dX6_dropTile_41 : decode cX6_dropTile 41 = .ok (.getfield 19, 3) := by decide +kernel
theorem dX6_dropTile_44 : decode cX6_dropTile 44 = .ok (.aload_n 0, 1) := by decide +kernel
theorem dX6_dropTile_45 : decode cX6_dropTile 45 = .ok (.getfield 12, 3) := by decide +kernel
theorem dX6_dropTile_48 : decode cX6_dropTile 48 = .ok (.invokevirtual 62, 3) := by decide +kernel
theorem dX6_dropTile_51 : decode cX6_dropTile 51 = .ok (.aload_n 0, 1) := by decide +kernel
theorem dX6_dropTile_52 : decode cX6_dropTile 52 = .ok (.getfield 12, 3) := by decide +kernel
theorem dX6_dropTile_55 : decode cX6_dropTile 55 = .ok (.dup, 1) := by decide +kernel
theorem dX6_dropTile_56 : decode cX6_dropTile 56 = .ok (.getfield 72, 3) := by decide +kernel
theorem dX6_dropTile_59 : decode cX6_dropTile 59 = .ok (.iconst 1, 1) := by decide +kernel
theorem dX6_dropTile_60 : decode cX6_dropTile 60 = .ok (.isub, 1) := by decide +kernel
theorem dX6_dropTile_61 : decode cX6_dropTile 61 = .ok (.putfield 72, 3) := by decide +kernel
theorem dX6_dropTile_64 : decode cX6_dropTile 64 = .ok (.aload_n 0, 1) := by decide +kernel
theorem dX6_dropTile_65 : decode cX6_dropTile 65 = .ok (.getfield 12, 3) := by decide +kernel
theorem dX6_dropTile_68 : decode cX6_dropTile 68 = .ok (.getfield 72, 3) := by decide +kernel
theorem dX6_dropTile_71 : decode cX6_dropTile 71 = .ok (.ireturn, 1) := by decide +kernel
set_option maxRecDepth 20000 in
theorem ggX6_setRule_X2_save : GoodIn wsX6_setRule wsX2_save := goodIn_r _ [10, 11, 12, 13, 14, 15, 16, 17, 18, 19, 20, 21, 22, 23, 24, 25, 26, 27, 28, 29, 30, 45, 46, 47, 37, 38, 39, 40, 41, 42, 43, 44] (by decide +kernel) (by decide +kernel)
set_option maxRecDepth 20000 in
theorem gX6_setRule_X2_save : GoodIn wsX6_setRule (wsV RX6 62 RX2 yX2_save wsX2_save) := goodIn_app (goodIn_of _ (by decide +kernel)) ggX6_setRule_X2_save
theorem dX6_setRule_0 : decode cX6_setRule 0 = .ok (.iload_n 1, 1) := by decide +kernel
theorem dX6_setRule_1 : decode cX6_setRule 1 = .ok (.ifCond .lt 8, 3) := by decide +kernel
theorem dX6_setRule_4 : decode cX6_setRule 4 = .ok (.iload_n 1, 1) := by decide +kernel
theorem dX6_setRule_5 : decode cX6_setRule 5 = .ok (.iconst 2, 1) := by decide +kernel
theorem dX6_setRule_6 : decode cX6_setRule 6 = .ok (.if_icmp .le 13, 3) := by decide +kernel
theorem dX6_setRule_9 : decode cX6_setRule 9 = .ok (.new 55, 3) := by decide +kernel
theorem dX6_setRule_12 : decode cX6_setRule 12 = .ok (.dup, 1) := by decide +kernel
theorem dX6_setRule_13 : decode cX6_setRule 13 = .ok (.ldc 90, 2) := by decide +kernel
theorem dX6_setRule_15 : decode cX6_setRule 15 = .ok (.invokespecial 59, 3) := by decide +kernel
theorem dX6_setRule_18 : decode cX6_setRule 18 = .ok (.athrow, 1) := by decide +kernel
theorem dX6_setRule_19 : decode cX6_setRule 19 = .ok (.aload_n 0, 1) := by decide +kernel
theorem dX6_setRule_20 : decode cX6_setRule 20 = .ok (.getfield 19, 3) := by decide +kernel
theorem dX6_setRule_23 : decode cX6_setRule 23 = .ok (.aload_n 0, 1) := by decide +kernel
theorem dX6_setRule_24 : decode cX6_setRule 24 = .ok (.getfield 12, 3) := by decide +kernel
theorem dX6_setRule_27 : decode cX6_setRule 27 = .ok (.invokevirtual 62, 3) := by decide +kernel
theorem dX6_setRule_30 : decode cX6_setRule 30 = .ok (.aload_n 0, 1) := by decide +kernel
theorem dX6_setRule_31 : decode cX6_setRule 31 = .ok (.getfield 12, 3) := by decide +kernel
theorem dX6_setRule_34 : decode cX6_setRule 34 = .ok (.getfield 92, 3) := by decide +kernel
theorem dX6_setRule_37 : decode cX6_setRule 37 = .ok (.istore_n 2, 1) := by decide +kernel
theorem dX6_setRule_38 : decode cX6_setRule 38 = .ok (.aload_n 0, 1) := by decide +kernel
theorem dX6_setRule_39 : decode cX6_setRule 39 = .ok (.getfield 12, 3) := by decide +kernel
theorem dX6_setRule_42 : decode cX6_setRule 42 = .ok (.iload_n 1, 1) := by decide +kernel
theorem dX6_setRule_43 : decode cX6_setRule 43 = .ok (.putfield 92, 3) := by decide +kernel
theorem dX6_setRule_46 : decode cX6_setRule 46 = .ok (.iload_n 2, 1) := by decide +kernel
theorem dX6_setRule_47 : decode cX6_setRule 47 = .ok (.ireturn, 1) := by decide +kernel
set_option maxRecDepth 20000 in
theorem ggX6_cut_X2_save : GoodIn wsX6_cut wsX2_save := goodIn_r _ [14, 15, 16, 17, 18, 19, 20, 21, 22, 23, 24, 25, 26, 27, 28, 29, 30, 31, 32, 33, 34, 99, 100, 101, 91, 92, 93, 94, 95, 96, 97, 98] (by decide +kernel) (by decide +kernel)
set_option maxRecDepth 20000 in
theorem gX6_cut_X2_save : GoodIn wsX6_cut (wsV RX6 62 RX2 yX2_save wsX2_save) := goodIn_app (goodIn_of _ (by decide +kernel)) ggX6_cut_X2_save
set_option maxRecDepth 20000 in
theorem ggX6_cut_X0_makeEmpty : GoodIn wsX6_cut wsX0_makeEmpty := goodIn_r _ [38, 23, 24, 27, 28, 33, 91, 92, 93, 94, 95, 96, 97, 98] (by decide +kernel) (by decide +kernel)
set_option maxRecDepth 20000 in
theorem gX6_cut_X0_makeEmpty : GoodIn wsX6_cut (wsV RX6 51 RX0 yX0_makeEmpty wsX0_makeEmpty) := goodIn_app (goodIn_of _ (by decide +kernel)) ggX6_cut_X0_makeEmpty
set_option maxRecDepth 20000 in
theorem ggX6_cut_X1_start : GoodIn wsX6_cut wsX1_start := goodIn_r _ [43, 44, 45, 46, 102, 103, 104] (by decide +kernel) (by decide +kernel)
set_option maxRecDepth 20000 in
theorem gX6_cut_X1_start : GoodIn wsX6_cut (wsV RX6 104 RX1 yX1_start wsX1_start) := goodIn_app (goodIn_of _ (by decide +kernel)) ggX6_cut_X1_start
set_option maxRecDepth 20000 in
theorem ggX6_cut_X0_cutTiles : GoodIn wsX6_cut wsX0_cutTiles := goodIn_r _ [50, 26, 34, 51, 52, 53, 21, 54, 23, 24, 55, 56, 57, 58, 59, 60, 61, 62, 63, 64, 65, 42, 66, 46, 45, 44, 67, 68, 69, 70, 71, 72, 73, 74, 75, 76, 77, 78, 79, 80, 81, 82, 83, 84, 91, 92, 93, 94, 95, 96, 97, 98, 102, 103, 104] (by decide +kernel) (by decide +kernel)
set_option maxRecDepth 20000 in
theorem gX6_cut_X0_cutTiles : GoodIn wsX6_cut (wsV RX6 107 RX0 yX0_cutTiles wsX0_cutTiles) := goodIn_app (goodIn_of _ (by decide +kernel)) ggX6_cut_X0_cutTiles
theorem dX6_cut_0 : decode cX6_cut 0 = .ok (.iload_n 1, 1) := by decide +kernel
theorem dX6_cut_1 : decode cX6_cut 1 = .ok (.iconst 1, 1) := by decide +kernel
theorem dX6_cut_2 : decode cX6_cut 2 = .ok (.if_icmp .lt 20, 3) := by decide +kernel
theorem dX6_cut_5 : decode cX6_cut 5 = .ok (.iload_n 1, 1) := by decide +kernel
theorem dX6_cut_6 : decode cX6_cut 6 = .ok (.ldc 95, 2) := by decide +kernel
theorem dX6_cut_8 : decode cX6_cut 8 = .ok (.if_icmp .gt 14, 3) := by decide +kernel
theorem dX6_cut_11 : decode cX6_cut 11 = .ok (.iload_n 2, 1) := by decide +kernel
theorem dX6_cut_12 : decode cX6_cut 12 = .ok (.iconst 1, 1) := by decide +kernel
theorem dX6_cut_13 : decode cX6_cut 13 = .ok (.if_icmp .lt 9, 3) := by decide +kernel
theorem dX6_cut_16 : decode cX6_cut 16 = .ok (.iload_n 2, 1) := by decide +kernel
theorem dX6_cut_17 : decode cX6_cut 17 = .ok (.bipush 9, 2) := by decide +kernel
theorem dX6_cut_19 : decode cX6_cut 19 = .ok (.if_icmp .le 13, 3) := by decide +kernel
theorem dX6_cut_22 : decode cX6_cut 22 = .ok (.new 55, 3) := by decide +kernel
theorem dX6_cut_25 : decode cX6_cut 25 = .ok (.dup, 1) := by decide +kernel
theorem dX6_cut_26 : decode cX6_cut 26 = .ok (.ldc 96, 2) := by decide +kernel
theorem dX6_cut_28 : decode cX6_cut 28 = .ok (.invokespecial 59, 3) := by decide +kernel
theorem dX6_cut_31 : decode cX6_cut 31 = .ok (.athrow, 1) := by decide +kernel
theorem dX6_cut_32 : decode cX6_cut 32 = .ok (.aload_n 0, 1) := by decide +kernel
theorem dX6_cut_33 : decode cX6_cut 33 = .ok (.getfield 19, 3) := by decide +kernel
theorem dX6_cut_36 : decode cX6_cut 36 = .ok (.aload_n 0, 1) := by decide +kernel
theorem dX6_cut_37 : decode cX6_cut 37 = .ok (.getfield 12, 3) := by decide +kernel
theorem dX6_cut_40 : decode cX6_cut 40 = .ok (.invokevirtual 62, 3) := by decide +kernel
theorem dX6_cut_43 : decode cX6_cut 43 = .ok (.aload_n 0, 1) := by decide +kernel
theorem dX6_cut_44 : decode cX6_cut 44 = .ok (.getfield 12, 3) := by decide +kernel
theorem dX6_cut_47 : decode cX6_cut 47 = .ok (.aload_n 0, 1) := by decide +kernel
theorem dX6_cut_48 : decode cX6_cut 48 = .ok (.getfield 12, 3) := by decide +kernel
theorem dX6_cut_51 : decode cX6_cut 51 = .ok (.getfield 98, 3) := by decide +kernel
theorem dX6_cut_54 : decode cX6_cut 54 = .ok (.aload_n 0, 1) := by decide +kernel
theorem dX6_cut_55 : decode cX6_cut 55 = .ok (.getfield 12, 3) := by decide +kernel
theorem dX6_cut_58 : decode cX6_cut 58 = .ok (.getfield 101, 3) := by decide +kernel
theorem dX6_cut_61 : decode cX6_cut 61 = .ok (.invokevirtual 51, 3) := by decide +kernel
theorem dX6_cut_64 : decode cX6_cut 64 = .ok (.aload_n 0, 1) := by decide +kernel
theorem dX6_cut_65 : decode cX6_cut 65 = .ok (.getfield 47, 3) := by decide +kernel
theorem dX6_cut_68 : decode cX6_cut 68 = .ok (.iload_n 1, 1) := by decide +kernel
theorem dX6_cut_69 : decode cX6_cut 69 = .ok (.iload_n 2, 1) := by decide +kernel
theorem dX6_cut_70 : decode cX6_cut 70 = .ok (.invokevirtual 104, 3) := by decide +kernel
theorem dX6_cut_73 : decode cX6_cut 73 = .ok (.aload_n 0, 1) := by decide +kernel
theorem dX6_cut_74 : decode cX6_cut 74 = .ok (.getfield 12, 3) := by decide +kernel
theorem dX6_cut_77 : decode cX6_cut 77 = .ok (.aload_n 0, 1) := by decide +kernel
theorem dX6_cut_78 : decode cX6_cut 78 = .ok (.getfield 47, 3) := by decide +kernel
theorem dX6_cut_81 : decode cX6_cut 81 = .ok (.invokevirtual 107, 3) := by decide +kernel
theorem dX6_cut_84 : decode cX6_cut 84 = .ok (.aload_n 0, 1) := by decide +kernel
theorem dX6_cut_85 : decode cX6_cut 85 = .ok (.getfield 12, 3) := by decide +kernel
theorem dX6_cut_88 : decode cX6_cut 88 = .ok (.getfield 72, 3) := by decide +kernel
theorem dX6_cut_91 : decode cX6_cut 91 = .ok (.ireturn, 1) := by decide +kernel
set_option maxRecDepth 20000 in
theorem ggX6_lay_X6_requirePlacing : GoodIn wsX6_lay wsX6_requirePlacing := goodIn_ca (goodIn_r _ [9, 10, 11, 4, 12, 13, 14, 8, 15, 16, 17, 18, 19, 20, 21, 22, 23, 24, 25, 26, 27, 28, 29, 30, 31, 114, 115, 116, 117, 118, 119, 120, 121, 122, 123, 124, 125, 126, 127] (by decide +kernel) (by decide +kernel)) (goodIn_sub (fun _ h => List.mem_cons_of_mem _ (List.mem_append_right _ h)) (by decide +kernel))
set_option maxRecDepth 20000 in
theorem gX6_lay_X6_requirePlacing : GoodIn wsX6_lay (wsV RX6 111 RX6 yX6_requirePlacing wsX6_requirePlacing) := goodIn_app (goodIn_of _ (by decide +kernel)) ggX6_lay_X6_requirePlacing
set_option maxRecDepth 20000 in
theorem ggX6_lay_X6_reason : GoodIn wsX6_lay wsX6_reason := goodIn_r _ [35, 4, 36, 37, 38, 39, 40, 19, 41, 42, 43, 44, 45, 46, 47, 48, 49, 50, 51, 52, 53, 54, 55, 56, 57, 58, 59, 60, 61, 62, 63, 64, 65, 26, 21, 22, 23, 24, 25, 66, 67, 68, 69, 70, 71, 72, 8, 73, 74, 75, 76, 77, 78, 79, 80, 81, 82, 83, 84, 85, 86, 114, 115, 116, 117, 118, 119, 120, 121, 122, 123, 124, 125, 126, 127, 128, 129, 130, 131] (by decide +kernel) (by decide +kernel)
set_option maxRecDepth 20000 in
theorem gX6_lay_X6_reason : GoodIn wsX6_lay (wsV RX6 114 RX6 yX6_reason wsX6_reason) := goodIn_app (goodIn_of _ (by decide +kernel)) ggX6_lay_X6_reason
set_option maxRecDepth 20000 in
theorem ggX6_lay_X2_save : GoodIn wsX6_lay wsX2_save := goodIn_r _ [91, 92, 93, 94, 95, 96, 97, 19, 98, 25, 26, 99, 31, 100, 42, 101, 102, 103, 104, 47, 71, 132, 133, 134, 120, 121, 122, 123, 124, 125, 126, 127] (by decide +kernel) (by decide +kernel)
set_option maxRecDepth 20000 in
theorem gX6_lay_X2_save : GoodIn wsX6_lay (wsV RX6 62 RX2 yX2_save wsX2_save) := goodIn_app (goodIn_of _ (by decide +kernel)) ggX6_lay_X2_save
set_option maxRecDepth 20000 in
theorem ggX6_lay_X0_put : GoodIn wsX6_lay wsX0_put := goodIn_r _ [108, 42, 47, 120, 121, 122, 123, 124, 125, 126, 127] (by decide +kernel) (by decide +kernel)
set_option maxRecDepth 20000 in
theorem gX6_lay_X0_put : GoodIn wsX6_lay (wsV RX6 120 RX0 yX0_put wsX0_put) := goodIn_app (goodIn_of _ (by decide +kernel)) ggX6_lay_X0_put
set_option maxRecDepth 20000 in
theorem ggX6_lay_X0_emptyCells : GoodIn wsX6_lay wsX0_emptyCells := goodIn_r _ [112, 21, 22, 23, 19, 24, 25, 26, 113, 39, 40, 41, 42, 120, 121, 122, 123, 124, 125, 126, 127] (by decide +kernel) (by decide +kernel)
set_option maxRecDepth 20000 in
theorem gX6_lay_X0_emptyCells : GoodIn wsX6_lay (wsV RX6 123 RX0 yX0_emptyCells wsX0_emptyCells) := goodIn_app (goodIn_of _ (by decide +kernel)) ggX6_lay_X0_emptyCells
theorem dX6_lay_0 : decode cX6_lay 0 = .ok (.aload_n 0, 1) := by decide +kernel
theorem dX6_lay_1 : decode cX6_lay 1 = .ok (.iload_n 1, 1) := by decide +kernel
theorem dX6_lay_2 : decode cX6_lay 2 = .ok (.iload_n 2, 1) := by decide +kernel
theorem dX6_lay_3 : decode cX6_lay 3 = .ok (.invokevirtual 111, 3) := by decide +kernel
theorem dX6_lay_6 : decode cX6_lay 6 = .ok (.aload_n 0, 1) := by decide +kernel
theorem dX6_lay_7 : decode cX6_lay 7 = .ok (.iload_n 1, 1) := by decide +kernel
theorem dX6_lay_8 : decode cX6_lay 8 = .ok (.iload_n 2, 1) := by decide +kernel
theorem dX6_lay_9 : decode cX6_lay 9 = .ok (.invokevirtual 114, 3) := by decide +kernel
theorem dX6_lay_12 : decode cX6_lay 12 = .ok (.ifCond .eq 13, 3) := by decide +kernel
theorem dX6_lay_15 : decode cX6_lay 15 = .ok (.new 76, 3) := by decide +kernel
theorem dX6_lay_18 : decode cX6_lay 18 = .ok (.dup, 1) := by decide +kernel
theorem dX6_lay_19 : decode cX6_lay 19 = .ok (.ldc 118, 2) := by decide +kernel
theorem dX6_lay_21 : decode cX6_lay 21 = .ok (.invokespecial 80, 3) := by decide +kernel
theorem dX6_lay_24 : decode cX6_lay 24 = .ok (.athrow, 1) := by decide +kernel
theorem dX6_lay_25 : decode cX6_lay 25 = .ok (.aload_n 0, 1) := by decide +kernel
theorem dX6_lay_26 : decode cX6_lay 26 = .ok (.getfield 19, 3) := by decide +kernel
theorem dX6_lay_29 : decode cX6_lay 29 = .ok (.aload_n 0, 1) := by decide +kernel
theorem dX6_lay_30 : decode cX6_lay 30 = .ok (.getfield 12, 3) := by decide +kernel
theorem dX6_lay_33 : decode cX6_lay 33 = .ok (.invokevirtual 62, 3) := by decide +kernel
theorem dX6_lay_36 : decode cX6_lay 36 = .ok (.aload_n 0, 1) := by decide +kernel
theorem dX6_lay_37 : decode cX6_lay 37 = .ok (.getfield 12, 3) := by decide +kernel
theorem dX6_lay_40 : decode cX6_lay 40 = .ok (.iload_n 1, 1) := by decide +kernel
theorem dX6_lay_41 : decode cX6_lay 41 = .ok (.iload_n 2, 1) := by decide +kernel
theorem dX6_lay_42 : decode cX6_lay 42 = .ok (.invokevirtual 120, 3) := by decide +kernel
theorem dX6_lay_45 : decode cX6_lay 45 = .ok (.aload_n 0, 1) := by decide +kernel
theorem dX6_lay_46 : decode cX6_lay 46 = .ok (.getfield 12, 3) := by decide +kernel
theorem dX6_lay_49 : decode cX6_lay 49 = .ok (.invokevirtual 123, 3) := by decide +kernel
theorem dX6_lay_52 : decode cX6_lay 52 = .ok (.ireturn, 1) := by decide +kernel
set_option maxRecDepth 20000 in
theorem ggX6_take_X6_requireCell : GoodIn wsX6_take wsX6_requireCell := goodIn_ca (goodIn_r _ [10, 11, 12, 3, 13, 14, 15, 16, 17, 18, 19, 20, 21, 22, 23, 58, 59, 60, 61, 62, 63, 64, 65, 66, 67, 68, 69, 70, 71] (by decide +kernel) (by decide +kernel)) (goodIn_sub (fun _ h => List.mem_cons_of_mem _ (List.mem_append_right _ h)) (by decide +kernel))
set_option maxRecDepth 20000 in
theorem gX6_take_X6_requireCell : GoodIn wsX6_take (wsV RX6 126 RX6 yX6_requireCell wsX6_requireCell) := goodIn_app (goodIn_of _ (by decide +kernel)) ggX6_take_X6_requireCell
set_option maxRecDepth 20000 in
theorem ggX6_take_X0_isEmpty : GoodIn wsX6_take wsX0_isEmpty := goodIn_r _ [27, 28, 64, 65, 66, 67, 68, 69, 70, 71] (by decide +kernel) (by decide +kernel)
set_option maxRecDepth 20000 in
theorem gX6_take_X0_isEmpty : GoodIn wsX6_take (wsV RX6 130 RX0 yX0_isEmpty wsX0_isEmpty) := goodIn_app (goodIn_of _ (by decide +kernel)) ggX6_take_X0_isEmpty
set_option maxRecDepth 20000 in
theorem ggX6_take_X0_isFixed : GoodIn wsX6_take wsX0_isFixed := goodIn_r _ [32, 33, 64, 65, 66, 67, 68, 69, 70, 71] (by decide +kernel) (by decide +kernel)
set_option maxRecDepth 20000 in
theorem gX6_take_X0_isFixed : GoodIn wsX6_take (wsV RX6 133 RX0 yX0_isFixed wsX0_isFixed) := goodIn_app (goodIn_of _ (by decide +kernel)) ggX6_take_X0_isFixed
set_option maxRecDepth 20000 in
theorem ggX6_take_X2_save : GoodIn wsX6_take wsX2_save := goodIn_r _ [38, 39, 40, 41, 42, 43, 44, 16, 45, 22, 23, 46, 47, 33, 28, 48, 49, 50, 51, 52, 53, 72, 73, 74, 64, 65, 66, 67, 68, 69, 70, 71] (by decide +kernel) (by decide +kernel)
set_option maxRecDepth 20000 in
theorem gX6_take_X2_save : GoodIn wsX6_take (wsV RX6 62 RX2 yX2_save wsX2_save) := goodIn_app (goodIn_of _ (by decide +kernel)) ggX6_take_X2_save
set_option maxRecDepth 20000 in
theorem ggX6_take_X0_remove : GoodIn wsX6_take wsX0_remove := goodIn_r _ [57, 52, 28, 64, 65, 66, 67, 68, 69, 70, 71] (by decide +kernel) (by decide +kernel)
set_option maxRecDepth 20000 in
theorem gX6_take_X0_remove : GoodIn wsX6_take (wsV RX6 142 RX0 yX0_remove wsX0_remove) := goodIn_app (goodIn_of _ (by decide +kernel)) ggX6_take_X0_remove
theorem dX6_take_0 : decode cX6_take 0 = .ok (.aload_n 0, 1) := by decide +kernel
theorem dX6_take_1 : decode cX6_take 1 = .ok (.iload_n 1, 1) := by decide +kernel
theorem dX6_take_2 : decode cX6_take 2 = .ok (.invokevirtual 126, 3) := by decide +kernel
theorem dX6_take_5 : decode cX6_take 5 = .ok (.aload_n 0, 1) := by decide +kernel
theorem dX6_take_6 : decode cX6_take 6 = .ok (.getfield 12, 3) := by decide +kernel
theorem dX6_take_9 : decode cX6_take 9 = .ok (.iload_n 1, 1) := by decide +kernel
theorem dX6_take_10 : decode cX6_take 10 = .ok (.invokevirtual 130, 3) := by decide +kernel
theorem dX6_take_13 : decode cX6_take 13 = .ok (.ifCond .ne 14, 3) := by decide +kernel
theorem dX6_take_16 : decode cX6_take 16 = .ok (.aload_n 0, 1) := by decide +kernel
theorem dX6_take_17 : decode cX6_take 17 = .ok (.getfield 12, 3) := by decide +kernel
theorem dX6_take_20 : decode cX6_take 20 = .ok (.iload_n 1, 1) := by decide +kernel
theorem dX6_take_21 : decode cX6_take 21 = .ok (.invokevirtual 133, 3) := by decide +kernel
theorem dX6_take_24 : decode cX6_take 24 = .ok (.ifCond .eq 13, 3) := by decide +kernel
theorem dX6_take_27 : decode cX6_take 27 = .ok (.new 76, 3) := by decide +kernel
theorem dX6_take_30 : decode cX6_take 30 = .ok (.dup, 1) := by decide +kernel
theorem dX6_take_31 : decode cX6_take 31 = .ok (.ldc 136, 2) := by decide +kernel
theorem dX6_take_33 : decode cX6_take 33 = .ok (.invokespecial 80, 3) := by decide +kernel
theorem dX6_take_36 : decode cX6_take 36 = .ok (.athrow, 1) := by decide +kernel
theorem dX6_take_37 : decode cX6_take 37 = .ok (.aload_n 0, 1) := by decide +kernel
theorem dX6_take_38 : decode cX6_take 38 = .ok (.getfield 19, 3) := by decide +kernel
theorem dX6_take_41 : decode cX6_take 41 = .ok (.aload_n 0, 1) := by decide +kernel
theorem dX6_take_42 : decode cX6_take 42 = .ok (.getfield 12, 3) := by decide +kernel
theorem dX6_take_45 : decode cX6_take 45 = .ok (.invokevirtual 62, 3) := by decide +kernel
theorem dX6_take_48 : decode cX6_take 48 = .ok (.aload_n 0, 1) := by decide +kernel
theorem dX6_take_49 : decode cX6_take 49 = .ok (.getfield 12, 3) := by decide +kernel
theorem dX6_take_52 : decode cX6_take 52 = .ok (.getfield 138, 3) := by decide +kernel
theorem dX6_take_55 : decode cX6_take 55 = .ok (.iload_n 1, 1) := by decide +kernel
theorem dX6_take_56 : decode cX6_take 56 = .ok (.iaload, 1) := by decide +kernel
theorem dX6_take_57 : decode cX6_take 57 = .ok (.istore_n 2, 1) := by decide +kernel
theorem dX6_take_58 : decode cX6_take 58 = .ok (.aload_n 0, 1) := by decide +kernel
theorem dX6_take_59 : decode cX6_take 59 = .ok (.getfield 12, 3) := by decide +kernel
theorem dX6_take_62 : decode cX6_take 62 = .ok (.iload_n 1, 1) := by decide +kernel
theorem dX6_take_63 : decode cX6_take 63 = .ok (.invokevirtual 142, 3) := by decide +kernel
theorem dX6_take_66 : decode cX6_take 66 = .ok (.iload_n 2, 1) := by decide +kernel
theorem dX6_take_67 : decode cX6_take 67 = .ok (.ireturn, 1) := by decide +kernel
set_option maxRecDepth 20000 in
theorem ggX6_fix_X6_requireCell : GoodIn wsX6_fix wsX6_requireCell := goodIn_ca (goodIn_r _ [10, 11, 12, 3, 13, 14, 15, 16, 17, 18, 19, 20, 21, 22, 23, 54, 55, 56, 57, 58, 59, 60, 61, 62, 63, 64, 65, 66, 67] (by decide +kernel) (by decide +kernel)) (goodIn_sub (fun _ h => List.mem_cons_of_mem _ (List.mem_append_right _ h)) (by decide +kernel))
set_option maxRecDepth 20000 in
theorem gX6_fix_X6_requireCell : GoodIn wsX6_fix (wsV RX6 126 RX6 yX6_requireCell wsX6_requireCell) := goodIn_app (goodIn_of _ (by decide +kernel)) ggX6_fix_X6_requireCell
set_option maxRecDepth 20000 in
theorem ggX6_fix_X0_isEmpty : GoodIn wsX6_fix wsX0_isEmpty := goodIn_r _ [27, 28, 60, 61, 62, 63, 64, 65, 66, 67] (by decide +kernel) (by decide +kernel)
set_option maxRecDepth 20000 in
theorem gX6_fix_X0_isEmpty : GoodIn wsX6_fix (wsV RX6 130 RX0 yX0_isEmpty wsX0_isEmpty) := goodIn_app (goodIn_of _ (by decide +kernel)) ggX6_fix_X0_isEmpty
set_option maxRecDepth 20000 in
theorem ggX6_fix_X2_save : GoodIn wsX6_fix wsX2_save := goodIn_r _ [33, 34, 35, 36, 37, 38, 39, 16, 40, 22, 23, 41, 42, 43, 28, 44, 45, 46, 47, 48, 49, 68, 69, 70, 60, 61, 62, 63, 64, 65, 66, 67] (by decide +kernel) (by decide +kernel)
set_option maxRecDepth 20000 in
theorem gX6_fix_X2_save : GoodIn wsX6_fix (wsV RX6 62 RX2 yX2_save wsX2_save) := goodIn_app (goodIn_of _ (by decide +kernel)) ggX6_fix_X2_save
set_option maxRecDepth 20000 in
theorem ggX6_fix_X0_isFixed : GoodIn wsX6_fix wsX0_isFixed := goodIn_r _ [53, 43, 60, 61, 62, 63, 64, 65, 66, 67] (by decide +kernel) (by decide +kernel)
set_option maxRecDepth 20000 in
theorem gX6_fix_X0_isFixed : GoodIn wsX6_fix (wsV RX6 133 RX0 yX0_isFixed wsX0_isFixed) := goodIn_app (goodIn_of _ (by decide +kernel)) ggX6_fix_X0_isFixed
theorem dX6_fix_0 : decode cX6_fix 0 = .ok (.aload_n 0, 1) := by decide +kernel
theorem dX6_fix_1 : decode cX6_fix 1 = .ok (.iload_n 1, 1) := by decide +kernel
theorem dX6_fix_2 : decode cX6_fix 2 = .ok (.invokevirtual 126, 3) := by decide +kernel
theorem dX6_fix_5 : decode cX6_fix 5 = .ok (.aload_n 0, 1) := by decide +kernel
theorem dX6_fix_6 : decode cX6_fix 6 = .ok (.getfield 12, 3) := by decide +kernel
theorem dX6_fix_9 : decode cX6_fix 9 = .ok (.iload_n 1, 1) := by decide +kernel
theorem dX6_fix_10 : decode cX6_fix 10 = .ok (.invokevirtual 130, 3) := by decide +kernel
theorem dX6_fix_13 : decode cX6_fix 13 = .ok (.ifCond .eq 13, 3) := by decide +kernel
theorem dX6_fix_16 : decode cX6_fix 16 = .ok (.new 76, 3) := by decide +kernel
theorem dX6_fix_19 : decode cX6_fix 19 = .ok (.dup, 1) := by decide +kernel
theorem dX6_fix_20 : decode cX6_fix 20 = .ok (.ldc 145, 2) := by decide +kernel
theorem dX6_fix_22 : decode cX6_fix 22 = .ok (.invokespecial 80, 3) := by decide +kernel
theorem dX6_fix_25 : decode cX6_fix 25 = .ok (.athrow, 1) := by decide +kernel
theorem dX6_fix_26 : decode cX6_fix 26 = .ok (.aload_n 0, 1) := by decide +kernel
theorem dX6_fix_27 : decode cX6_fix 27 = .ok (.getfield 19, 3) := by decide +kernel
theorem dX6_fix_30 : decode cX6_fix 30 = .ok (.aload_n 0, 1) := by decide +kernel
theorem dX6_fix_31 : decode cX6_fix 31 = .ok (.getfield 12, 3) := by decide +kernel
theorem dX6_fix_34 : decode cX6_fix 34 = .ok (.invokevirtual 62, 3) := by decide +kernel
theorem dX6_fix_37 : decode cX6_fix 37 = .ok (.aload_n 0, 1) := by decide +kernel
theorem dX6_fix_38 : decode cX6_fix 38 = .ok (.getfield 12, 3) := by decide +kernel
theorem dX6_fix_41 : decode cX6_fix 41 = .ok (.dup, 1) := by decide +kernel
theorem dX6_fix_42 : decode cX6_fix 42 = .ok (.getfield 147, 3) := by decide +kernel
theorem dX6_fix_45 : decode cX6_fix 45 = .ok (.iconst 1, 1) := by decide +kernel
theorem dX6_fix_46 : decode cX6_fix 46 = .ok (.iload_n 1, 1) := by decide +kernel
theorem dX6_fix_47 : decode cX6_fix 47 = .ok (.ishl, 1) := by decide +kernel
theorem dX6_fix_48 : decode cX6_fix 48 = .ok (.ixor, 1) := by decide +kernel
theorem dX6_fix_49 : decode cX6_fix 49 = .ok (.putfield 147, 3) := by decide +kernel
theorem dX6_fix_52 : decode cX6_fix 52 = .ok (.aload_n 0, 1) := by decide +kernel
theorem dX6_fix_53 : decode cX6_fix 53 = .ok (.getfield 12, 3) := by decide +kernel
theorem dX6_fix_56 : decode cX6_fix 56 = .ok (.iload_n 1, 1) := by decide +kernel
theorem dX6_fix_57 : decode cX6_fix 57 = .ok (.invokevirtual 133, 3) := by decide +kernel
theorem dX6_fix_60 : decode cX6_fix 60 = .ok (.ifCond .eq 7, 3) := by decide +kernel
theorem dX6_fix_63 : decode cX6_fix 63 = .ok (.iconst 1, 1) := by decide +kernel
theorem dX6_fix_64 : decode cX6_fix 64 = .ok (.goto 4, 3) := by decide +kernel
theorem dX6_fix_67 : decode cX6_fix 67 = .ok (.iconst 0, 1) := by decide +kernel
theorem dX6_fix_68 : decode cX6_fix 68 = .ok (.ireturn, 1) := by decide +kernel
set_option maxRecDepth 20000 in
theorem ggX6_clear_X2_save : GoodIn wsX6_clear wsX2_save := goodIn_r _ [8, 9, 10, 11, 12, 13, 14, 15, 16, 17, 18, 19, 20, 21, 22, 23, 24, 25, 26, 27, 28, 59, 60, 61, 51, 52, 53, 54, 55, 56, 57, 58] (by decide +kernel) (by decide +kernel)
set_option maxRecDepth 20000 in
theorem gX6_clear_X2_save : GoodIn wsX6_clear (wsV RX6 62 RX2 yX2_save wsX2_save) := goodIn_app (goodIn_of _ (by decide +kernel)) ggX6_clear_X2_save
set_option maxRecDepth 20000 in
theorem ggX6_clear_X0_removeAllBut : GoodIn wsX6_clear wsX0_removeAllBut := goodIn_r _ [32, 33, 34, 35, 15, 36, 17, 18, 37, 38, 39, 40, 22, 41, 42, 43, 44, 27, 51, 52, 53, 54, 55, 56, 57, 58] (by decide +kernel) (by decide +kernel)
set_option maxRecDepth 20000 in
theorem gX6_clear_X0_removeAllBut : GoodIn wsX6_clear (wsV RX6 150 RX0 yX0_removeAllBut wsX0_removeAllBut) := goodIn_app (goodIn_of _ (by decide +kernel)) ggX6_clear_X0_removeAllBut
theorem dX6_clear_0 : decode cX6_clear 0 = .ok (.aload_n 0, 1) := by decide +kernel
theorem dX6_clear_1 : decode cX6_clear 1 = .ok (.getfield 19, 3) := by decide +kernel
theorem dX6_clear_4 : decode cX6_clear 4 = .ok (.aload_n 0, 1) := by decide +kernel
theorem dX6_clear_5 : decode cX6_clear 5 = .ok (.getfield 12, 3) := by decide +kernel
theorem dX6_clear_8 : decode cX6_clear 8 = .ok (.invokevirtual 62, 3) := by decide +kernel
theorem dX6_clear_11 : decode cX6_clear 11 = .ok (.aload_n 0, 1) := by decide +kernel
theorem dX6_clear_12 : decode cX6_clear 12 = .ok (.getfield 12, 3) := by decide +kernel
theorem dX6_clear_15 : decode cX6_clear 15 = .ok (.aload_n 0, 1) := by decide +kernel
theorem dX6_clear_16 : decode cX6_clear 16 = .ok (.getfield 12, 3) := by decide +kernel
theorem dX6_clear_19 : decode cX6_clear 19 = .ok (.getfield 147, 3) := by decide +kernel
theorem dX6_clear_22 : decode cX6_clear 22 = .ok (.invokevirtual 150, 3) := by decide +kernel
theorem dX6_clear_25 : decode cX6_clear 25 = .ok (.ireturn, 1) := by decide +kernel
set_option maxRecDepth 20000 in
theorem ggX6_turnOver_X2_save : GoodIn wsX6_turnOver wsX2_save := goodIn_r _ [7, 8, 9, 10, 11, 12, 13, 14, 15, 16, 17, 18, 19, 20, 21, 22, 23, 24, 25, 26, 27, 58, 59, 60, 61, 62, 63, 64, 65, 66, 67, 68] (by decide +kernel) (by decide +kernel)
set_option maxRecDepth 20000 in
theorem gX6_turnOver_X2_save : GoodIn wsX6_turnOver (wsV RX6 62 RX2 yX2_save wsX2_save) := goodIn_app (goodIn_of _ (by decide +kernel)) ggX6_turnOver_X2_save
set_option maxRecDepth 20000 in
theorem ggX6_turnOver_X0_mirror : GoodIn wsX6_turnOver wsX0_mirror := goodIn_r _ [31, 20, 16, 17, 26, 21, 32, 33, 34, 14, 35, 36, 37, 38, 39, 40, 41, 42, 43, 44, 45, 46, 61, 62, 63, 64, 65, 66, 67, 68] (by decide +kernel) (by decide +kernel)
set_option maxRecDepth 20000 in
theorem gX6_turnOver_X0_mirror : GoodIn wsX6_turnOver (wsV RX6 154 RX0 yX0_mirror wsX0_mirror) := goodIn_app (goodIn_of _ (by decide +kernel)) ggX6_turnOver_X0_mirror
set_option maxRecDepth 20000 in
theorem ggX6_turnOver_X0_cells : GoodIn wsX6_turnOver wsX0_cells := goodIn_r _ [42, 16, 17, 61, 62, 63, 64, 65, 66, 67, 68] (by decide +kernel) (by decide +kernel)
set_option maxRecDepth 20000 in
theorem gX6_turnOver_X0_cells : GoodIn wsX6_turnOver (wsV RX6 66 RX0 yX0_cells wsX0_cells) := goodIn_app (goodIn_of _ (by decide +kernel)) ggX6_turnOver_X0_cells
set_option maxRecDepth 20000 in
theorem ggX6_turnOver_X0_emptyCells : GoodIn wsX6_turnOver wsX0_emptyCells := goodIn_r _ [51, 39, 40, 41, 14, 42, 16, 17, 43, 44, 45, 46, 21, 61, 62, 63, 64, 65, 66, 67, 68] (by decide +kernel) (by decide +kernel)
set_option maxRecDepth 20000 in
theorem gX6_turnOver_X0_emptyCells : GoodIn wsX6_turnOver (wsV RX6 123 RX0 yX0_emptyCells wsX0_emptyCells) := goodIn_app (goodIn_of _ (by decide +kernel)) ggX6_turnOver_X0_emptyCells
theorem dX6_turnOver_0 : decode cX6_turnOver 0 = .ok (.aload_n 0, 1) := by decide +kernel
theorem dX6_turnOver_1 : decode cX6_turnOver 1 = .ok (.getfield 19, 3) := by decide +kernel
theorem dX6_turnOver_4 : decode cX6_turnOver 4 = .ok (.aload_n 0, 1) := by decide +kernel
theorem dX6_turnOver_5 : decode cX6_turnOver 5 = .ok (.getfield 12, 3) := by decide +kernel
theorem dX6_turnOver_8 : decode cX6_turnOver 8 = .ok (.invokevirtual 62, 3) := by decide +kernel
theorem dX6_turnOver_11 : decode cX6_turnOver 11 = .ok (.aload_n 0, 1) := by decide +kernel
theorem dX6_turnOver_12 : decode cX6_turnOver 12 = .ok (.getfield 12, 3) := by decide +kernel
theorem dX6_turnOver_15 : decode cX6_turnOver 15 = .ok (.invokevirtual 154, 3) := by decide +kernel
theorem dX6_turnOver_18 : decode cX6_turnOver 18 = .ok (.aload_n 0, 1) := by decide +kernel
theorem dX6_turnOver_19 : decode cX6_turnOver 19 = .ok (.getfield 12, 3) := by decide +kernel
theorem dX6_turnOver_22 : decode cX6_turnOver 22 = .ok (.invokevirtual 66, 3) := by decide +kernel
theorem dX6_turnOver_25 : decode cX6_turnOver 25 = .ok (.aload_n 0, 1) := by decide +kernel
theorem dX6_turnOver_26 : decode cX6_turnOver 26 = .ok (.getfield 12, 3) := by decide +kernel
theorem dX6_turnOver_29 : decode cX6_turnOver 29 = .ok (.invokevirtual 123, 3) := by decide +kernel
theorem dX6_turnOver_32 : decode cX6_turnOver 32 = .ok (.isub, 1) := by decide +kernel
theorem dX6_turnOver_33 : decode cX6_turnOver 33 = .ok (.ireturn, 1) := by decide +kernel
set_option maxRecDepth 20000 in
theorem ggX6_solve_X4_run : GoodIn wsX6_solve wsX4_run := goodIn_r _ [12, 13, 14, 15, 16, 17, 18, 19, 20, 21, 22, 23, 24, 25, 26, 27, 28, 29, 30, 31, 32, 33, 11, 34, 35, 36, 37, 38, 39, 40, 41, 42, 43, 44, 45, 46, 47, 48, 49, 50, 51, 52, 53, 54, 55, 56, 57, 58, 59, 60, 61, 62, 63, 64, 65, 66, 67, 68, 69, 70, 71, 72, 73, 74, 75, 76, 77, 78, 79, 80, 81, 82, 83, 84, 85, 86, 87, 88, 89, 90, 91, 92, 93, 94, 95, 96, 97, 98, 99, 100, 101, 102, 103, 104, 105, 106, 107, 108, 109, 110, 132, 133, 134, 135, 136, 137, 138, 139, 140, 141, 142, 143, 144, 145, 146, 147, 148, 149, 150] (by decide +kernel) (by decide +kernel)
set_option maxRecDepth 20000 in
theorem gX6_solve_X4_run : GoodIn wsX6_solve (wsV RX6 157 RX4 yX4_run wsX4_run) := goodIn_app (goodIn_of _ (by decide +kernel)) ggX6_solve_X4_run
set_option maxRecDepth 20000 in
theorem ggX6_solve_X2_save : GoodIn wsX6_solve wsX2_save := goodIn_r _ [115, 116, 117, 118, 119, 15, 16, 17, 18, 19, 20, 21, 22, 23, 24, 25, 26, 27, 28, 29, 30, 151, 152, 153, 139, 140, 141, 142, 143, 144, 145, 146] (by decide +kernel) (by decide +kernel)
set_option maxRecDepth 20000 in
theorem gX6_solve_X2_save : GoodIn wsX6_solve (wsV RX6 62 RX2 yX2_save wsX2_save) := goodIn_app (goodIn_of _ (by decide +kernel)) ggX6_solve_X2_save
set_option maxRecDepth 20000 in
theorem ggX6_solve_X0_emptyCells : GoodIn wsX6_solve wsX0_emptyCells := goodIn_r _ [123, 73, 48, 49, 17, 50, 19, 20, 124, 52, 53, 54, 24, 139, 140, 141, 142, 143, 144, 145, 146] (by decide +kernel) (by decide +kernel)
set_option maxRecDepth 20000 in
theorem gX6_solve_X0_emptyCells : GoodIn wsX6_solve (wsV RX6 123 RX0 yX0_emptyCells wsX0_emptyCells) := goodIn_app (goodIn_of _ (by decide +kernel)) ggX6_solve_X0_emptyCells
set_option maxRecDepth 20000 in
theorem ggX6_solve_X0_copyFrom : GoodIn wsX6_solve wsX0_copyFrom := goodIn_r _ [18, 19, 20, 21, 22, 23, 24, 25, 26, 27, 28, 29, 30, 139, 140, 141, 142, 143, 144, 145, 146] (by decide +kernel) (by decide +kernel)
set_option maxRecDepth 20000 in
theorem gX6_solve_X0_copyFrom : GoodIn wsX6_solve (wsV RX6 169 RX0 yX0_copyFrom wsX0_copyFrom) := goodIn_app (goodIn_of _ (by decide +kernel)) ggX6_solve_X0_copyFrom
theorem dX6_solve_0 : decode cX6_solve 0 = .ok (.aload_n 0, 1) := by decide +kernel
theorem dX6_solve_1 : decode cX6_solve 1 = .ok (.getfield 40, 3) := by decide +kernel
theorem dX6_solve_4 : decode cX6_solve 4 = .ok (.aload_n 0, 1) := by decide +kernel
theorem dX6_solve_5 : decode cX6_solve 5 = .ok (.getfield 12, 3) := by decide +kernel
theorem dX6_solve_8 : decode cX6_solve 8 = .ok (.iconst 1, 1) := by decide +kernel
theorem dX6_solve_9 : decode cX6_solve 9 = .ok (.invokevirtual 157, 3) := by decide +kernel
theorem dX6_solve_12 : decode cX6_solve 12 = .ok (.aload_n 0, 1) := by decide +kernel
theorem dX6_solve_13 : decode cX6_solve 13 = .ok (.getfield 40, 3) := by decide +kernel
theorem dX6_solve_16 : decode cX6_solve 16 = .ok (.getfield 161, 3) := by decide +kernel
theorem dX6_solve_19 : decode cX6_solve 19 = .ok (.iconst 1, 1) := by decide +kernel
theorem dX6_solve_20 : decode cX6_solve 20 = .ok (.if_icmp .ge 13, 3) := by decide +kernel
theorem dX6_solve_23 : decode cX6_solve 23 = .ok (.new 76, 3) := by decide +kernel
theorem dX6_solve_26 : decode cX6_solve 26 = .ok (.dup, 1) := by decide +kernel
theorem dX6_solve_27 : decode cX6_solve 27 = .ok (.ldc 164, 2) := by decide +kernel
theorem dX6_solve_29 : decode cX6_solve 29 = .ok (.invokespecial 80, 3) := by decide +kernel
theorem dX6_solve_32 : decode cX6_solve 32 = .ok (.athrow, 1) := by decide +kernel
theorem dX6_solve_33 : decode cX6_solve 33 = .ok (.aload_n 0, 1) := by decide +kernel
theorem dX6_solve_34 : decode cX6_solve 34 = .ok (.getfield 19, 3) := by decide +kernel
theorem dX6_solve_37 : decode cX6_solve 37 = .ok (.aload_n 0, 1) := by decide +kernel
theorem dX6_solve_38 : decode cX6_solve 38 = .ok (.getfield 12, 3) := by decide +kernel
theorem dX6_solve_41 : decode cX6_solve 41 = .ok (.invokevirtual 62, 3) := by decide +kernel
theorem dX6_solve_44 : decode cX6_solve 44 = .ok (.aload_n 0, 1) := by decide +kernel
theorem dX6_solve_45 : decode cX6_solve 45 = .ok (.getfield 12, 3) := by decide +kernel
theorem dX6_solve_48 : decode cX6_solve 48 = .ok (.invokevirtual 123, 3) := by decide +kernel
theorem dX6_solve_51 : decode cX6_solve 51 = .ok (.istore_n 1, 1) := by decide +kernel
theorem dX6_solve_52 : decode cX6_solve 52 = .ok (.aload_n 0, 1) := by decide +kernel
theorem dX6_solve_53 : decode cX6_solve 53 = .ok (.getfield 12, 3) := by decide +kernel
theorem dX6_solve_56 : decode cX6_solve 56 = .ok (.aload_n 0, 1) := by decide +kernel
theorem dX6_solve_57 : decode cX6_solve 57 = .ok (.getfield 40, 3) := by decide +kernel
theorem dX6_solve_60 : decode cX6_solve 60 = .ok (.getfield 166, 3) := by decide +kernel
theorem dX6_solve_63 : decode cX6_solve 63 = .ok (.invokevirtual 169, 3) := by decide +kernel
theorem dX6_solve_66 : decode cX6_solve 66 = .ok (.iload_n 1, 1) := by decide +kernel
theorem dX6_solve_67 : decode cX6_solve 67 = .ok (.ireturn, 1) := by decide +kernel
set_option maxRecDepth 20000 in
theorem ggX6_undo_X2_restore : GoodIn wsX6_undo wsX2_restore := goodIn_r _ [10, 11, 12, 13, 14, 15, 16, 17, 18, 19, 20, 21, 22, 23, 24, 25, 26, 27, 28, 29, 30, 37, 38, 39, 40, 41, 42, 43, 44, 45, 46, 47] (by decide +kernel) (by decide +kernel)
set_option maxRecDepth 20000 in
theorem gX6_undo_X2_restore : GoodIn wsX6_undo (wsV RX6 204 RX2 yX2_restore wsX2_restore) := goodIn_app (goodIn_of _ (by decide +kernel)) ggX6_undo_X2_restore
theorem dX6_undo_0 : decode cX6_undo 0 = .ok (.aload_n 0, 1) := by decide +kernel
theorem dX6_undo_1 : decode cX6_undo 1 = .ok (.getfield 19, 3) := by decide +kernel
theorem dX6_undo_4 : decode cX6_undo 4 = .ok (.getfield 199, 3) := by decide +kernel
theorem dX6_undo_7 : decode cX6_undo 7 = .ok (.iconst 1, 1) := by decide +kernel
theorem dX6_undo_8 : decode cX6_undo 8 = .ok (.if_icmp .ge 13, 3) := by decide +kernel
theorem dX6_undo_11 : decode cX6_undo 11 = .ok (.new 76, 3) := by decide +kernel
theorem dX6_undo_14 : decode cX6_undo 14 = .ok (.dup, 1) := by decide +kernel
theorem dX6_undo_15 : decode cX6_undo 15 = .ok (.ldc 202, 2) := by decide +kernel
theorem dX6_undo_17 : decode cX6_undo 17 = .ok (.invokespecial 80, 3) := by decide +kernel
theorem dX6_undo_20 : decode cX6_undo 20 = .ok (.athrow, 1) := by decide +kernel
theorem dX6_undo_21 : decode cX6_undo 21 = .ok (.aload_n 0, 1) := by decide +kernel
theorem dX6_undo_22 : decode cX6_undo 22 = .ok (.getfield 19, 3) := by decide +kernel
theorem dX6_undo_25 : decode cX6_undo 25 = .ok (.aload_n 0, 1) := by decide +kernel
theorem dX6_undo_26 : decode cX6_undo 26 = .ok (.getfield 12, 3) := by decide +kernel
theorem dX6_undo_29 : decode cX6_undo 29 = .ok (.invokevirtual 204, 3) := by decide +kernel
theorem dX6_undo_32 : decode cX6_undo 32 = .ok (.aload_n 0, 1) := by decide +kernel
theorem dX6_undo_33 : decode cX6_undo 33 = .ok (.getfield 19, 3) := by decide +kernel
theorem dX6_undo_36 : decode cX6_undo 36 = .ok (.getfield 199, 3) := by decide +kernel
theorem dX6_undo_39 : decode cX6_undo 39 = .ok (.ireturn, 1) := by decide +kernel
set_option maxRecDepth 20000 in
theorem ggX6_cell_X6_requireCell : GoodIn wsX6_cell wsX6_requireCell := goodIn_ca (goodIn_r _ [7, 8, 9, 10, 11, 12, 13, 14, 15, 16, 17, 18, 19, 20, 21, 96, 97, 98, 99, 100, 101, 102, 103, 104, 105, 106, 107, 108, 109] (by decide +kernel) (by decide +kernel)) (goodIn_sub (fun _ h => List.mem_cons_of_mem _ (List.mem_append_right _ h)) (by decide +kernel))
set_option maxRecDepth 20000 in
theorem gX6_cell_X6_requireCell : GoodIn wsX6_cell (wsV RX6 126 RX6 yX6_requireCell wsX6_requireCell) := goodIn_app (goodIn_of _ (by decide +kernel)) ggX6_cell_X6_requireCell
set_option maxRecDepth 20000 in
theorem ggX6_cell_X6_cellProperty : GoodIn wsX6_cell wsX6_cellProperty := goodIn_r _ [25, 10, 26, 27, 28, 29, 14, 30, 31, 32, 33, 34, 6, 35, 36, 37, 38, 39, 40, 41, 42, 43, 44, 45, 46, 47, 48, 49, 50, 51, 52, 53, 54, 55, 56, 57, 58, 59, 60, 21, 16, 17, 18, 19, 20, 61, 62, 63, 64, 65, 66, 67, 68, 69, 70, 71, 72, 73, 74, 75, 76, 77, 78, 79, 80, 81, 82, 83, 84, 85, 86, 87, 88, 89, 90, 91, 92, 93, 94, 95, 96, 97, 98, 99, 100, 101, 102, 103, 104, 105, 106, 107, 108, 109, 110, 111, 112, 113] (by decide +kernel) (by decide +kernel)
set_option maxRecDepth 20000 in
theorem gX6_cell_X6_cellProperty : GoodIn wsX6_cell (wsV RX6 209 RX6 yX6_cellProperty wsX6_cellProperty) := goodIn_app (goodIn_of _ (by decide +kernel)) ggX6_cell_X6_cellProperty
theorem dX6_cell_0 : decode cX6_cell 0 = .ok (.aload_n 0, 1) := by decide +kernel
theorem dX6_cell_1 : decode cX6_cell 1 = .ok (.iload_n 1, 1) := by decide +kernel
theorem dX6_cell_2 : decode cX6_cell 2 = .ok (.invokevirtual 126, 3) := by decide +kernel
theorem dX6_cell_5 : decode cX6_cell 5 = .ok (.iload_n 2, 1) := by decide +kernel
theorem dX6_cell_6 : decode cX6_cell 6 = .ok (.ifCond .lt 8, 3) := by decide +kernel
theorem dX6_cell_9 : decode cX6_cell 9 = .ok (.iload_n 2, 1) := by decide +kernel
theorem dX6_cell_10 : decode cX6_cell 10 = .ok (.iconst 4, 1) := by decide +kernel
theorem dX6_cell_11 : decode cX6_cell 11 = .ok (.if_icmp .lt 13, 3) := by decide +kernel
theorem dX6_cell_14 : decode cX6_cell 14 = .ok (.new 55, 3) := by decide +kernel
theorem dX6_cell_17 : decode cX6_cell 17 = .ok (.dup, 1) := by decide +kernel
theorem dX6_cell_18 : decode cX6_cell 18 = .ok (.ldc 207, 2) := by decide +kernel
theorem dX6_cell_20 : decode cX6_cell 20 = .ok (.invokespecial 59, 3) := by decide +kernel
theorem dX6_cell_23 : decode cX6_cell 23 = .ok (.athrow, 1) := by decide +kernel
theorem dX6_cell_24 : decode cX6_cell 24 = .ok (.aload_n 0, 1) := by decide +kernel
theorem dX6_cell_25 : decode cX6_cell 25 = .ok (.iload_n 1, 1) := by decide +kernel
theorem dX6_cell_26 : decode cX6_cell 26 = .ok (.iload_n 2, 1) := by decide +kernel
theorem dX6_cell_27 : decode cX6_cell 27 = .ok (.invokevirtual 209, 3) := by decide +kernel
theorem dX6_cell_30 : decode cX6_cell 30 = .ok (.ireturn, 1) := by decide +kernel
set_option maxRecDepth 20000 in
theorem ggX6_color_X6_requireCell : GoodIn wsX6_color wsX6_requireCell := goodIn_ca (goodIn_r _ [7, 1, 2, 8, 9, 10, 11, 12, 13, 14, 15, 16, 17, 18, 19, 38, 39, 40, 41, 42, 43, 44, 45, 46, 47, 48, 49, 50, 51] (by decide +kernel) (by decide +kernel)) (goodIn_sub (fun _ h => List.mem_cons_of_mem _ (List.mem_append_right _ h)) (by decide +kernel))
set_option maxRecDepth 20000 in
theorem gX6_color_X6_requireCell : GoodIn wsX6_color (wsV RX6 126 RX6 yX6_requireCell wsX6_requireCell) := goodIn_app (goodIn_of _ (by decide +kernel)) ggX6_color_X6_requireCell
set_option maxRecDepth 20000 in
theorem ggX6_color_X6_colorAt : GoodIn wsX6_color wsX6_colorAt := goodIn_r _ [23, 8, 24, 25, 26, 12, 27, 28, 29, 30, 31, 32, 33, 34, 35, 6, 36, 37, 38, 39, 40, 41, 42, 43, 44, 45, 46, 47, 48, 49, 50, 51] (by decide +kernel) (by decide +kernel)
set_option maxRecDepth 20000 in
theorem gX6_color_X6_colorAt : GoodIn wsX6_color (wsV RX6 217 RX6 yX6_colorAt wsX6_colorAt) := goodIn_app (goodIn_of _ (by decide +kernel)) ggX6_color_X6_colorAt
theorem dX6_color_0 : decode cX6_color 0 = .ok (.aload_n 0, 1) := by decide +kernel
theorem dX6_color_1 : decode cX6_color 1 = .ok (.iload_n 1, 1) := by decide +kernel
theorem dX6_color_2 : decode cX6_color 2 = .ok (.invokevirtual 126, 3) := by decide +kernel
theorem dX6_color_5 : decode cX6_color 5 = .ok (.iload_n 2, 1) := by decide +kernel
theorem dX6_color_6 : decode cX6_color 6 = .ok (.ifCond .lt 8, 3) := by decide +kernel
theorem dX6_color_9 : decode cX6_color 9 = .ok (.iload_n 2, 1) := by decide +kernel
theorem dX6_color_10 : decode cX6_color 10 = .ok (.iconst 4, 1) := by decide +kernel
theorem dX6_color_11 : decode cX6_color 11 = .ok (.if_icmp .lt 13, 3) := by decide +kernel
theorem dX6_color_14 : decode cX6_color 14 = .ok (.new 212, 3) := by decide +kernel
theorem dX6_color_17 : decode cX6_color 17 = .ok (.dup, 1) := by decide +kernel
theorem dX6_color_18 : decode cX6_color 18 = .ok (.ldc 214, 2) := by decide +kernel
theorem dX6_color_20 : decode cX6_color 20 = .ok (.invokespecial 216, 3) := by decide +kernel
theorem dX6_color_23 : decode cX6_color 23 = .ok (.athrow, 1) := by decide +kernel
theorem dX6_color_24 : decode cX6_color 24 = .ok (.aload_n 0, 1) := by decide +kernel
theorem dX6_color_25 : decode cX6_color 25 = .ok (.iload_n 1, 1) := by decide +kernel
theorem dX6_color_26 : decode cX6_color 26 = .ok (.iload_n 2, 1) := by decide +kernel
theorem dX6_color_27 : decode cX6_color 27 = .ok (.iload_n 3, 1) := by decide +kernel
theorem dX6_color_28 : decode cX6_color 28 = .ok (.invokevirtual 217, 3) := by decide +kernel
theorem dX6_color_31 : decode cX6_color 31 = .ok (.ireturn, 1) := by decide +kernel
set_option maxRecDepth 20000 in
theorem ggX6_tile_X6_tileProperty : GoodIn wsX6_tile wsX6_tileProperty := goodIn_r _ [11, 5, 12, 13, 14, 15, 16, 17, 18, 19, 10, 20, 21, 22, 23, 24, 25, 26, 27, 28, 29, 30, 31, 32, 33, 34, 35, 36, 37, 38, 39] (by decide +kernel) (by decide +kernel)
set_option maxRecDepth 20000 in
theorem gX6_tile_X6_tileProperty : GoodIn wsX6_tile (wsV RX6 223 RX6 yX6_tileProperty wsX6_tileProperty) := goodIn_app (goodIn_of _ (by decide +kernel)) ggX6_tile_X6_tileProperty
theorem dX6_tile_0 : decode cX6_tile 0 = .ok (.iload_n 1, 1) := by decide +kernel
theorem dX6_tile_1 : decode cX6_tile 1 = .ok (.ifCond .lt 14, 3) := by decide +kernel
theorem dX6_tile_4 : decode cX6_tile 4 = .ok (.iload_n 1, 1) := by decide +kernel
theorem dX6_tile_5 : decode cX6_tile 5 = .ok (.aload_n 0, 1) := by decide +kernel
theorem dX6_tile_6 : decode cX6_tile 6 = .ok (.getfield 12, 3) := by decide +kernel
theorem dX6_tile_9 : decode cX6_tile 9 = .ok (.getfield 72, 3) := by decide +kernel
theorem dX6_tile_12 : decode cX6_tile 12 = .ok (.if_icmp .lt 13, 3) := by decide +kernel
theorem dX6_tile_15 : decode cX6_tile 15 = .ok (.new 212, 3) := by decide +kernel
theorem dX6_tile_18 : decode cX6_tile 18 = .ok (.dup, 1) := by decide +kernel
theorem dX6_tile_19 : decode cX6_tile 19 = .ok (.ldc 221, 2) := by decide +kernel
theorem dX6_tile_21 : decode cX6_tile 21 = .ok (.invokespecial 216, 3) := by decide +kernel
theorem dX6_tile_24 : decode cX6_tile 24 = .ok (.athrow, 1) := by decide +kernel
theorem dX6_tile_25 : decode cX6_tile 25 = .ok (.iload_n 2, 1) := by decide +kernel
theorem dX6_tile_26 : decode cX6_tile 26 = .ok (.ifCond .lt 8, 3) := by decide +kernel
theorem dX6_tile_29 : decode cX6_tile 29 = .ok (.iload_n 2, 1) := by decide +kernel
theorem dX6_tile_30 : decode cX6_tile 30 = .ok (.iconst 4, 1) := by decide +kernel
theorem dX6_tile_31 : decode cX6_tile 31 = .ok (.if_icmp .lt 13, 3) := by decide +kernel
theorem dX6_tile_34 : decode cX6_tile 34 = .ok (.new 55, 3) := by decide +kernel
theorem dX6_tile_37 : decode cX6_tile 37 = .ok (.dup, 1) := by decide +kernel
theorem dX6_tile_38 : decode cX6_tile 38 = .ok (.ldc 207, 2) := by decide +kernel
theorem dX6_tile_40 : decode cX6_tile 40 = .ok (.invokespecial 59, 3) := by decide +kernel
theorem dX6_tile_43 : decode cX6_tile 43 = .ok (.athrow, 1) := by decide +kernel
theorem dX6_tile_44 : decode cX6_tile 44 = .ok (.aload_n 0, 1) := by decide +kernel
theorem dX6_tile_45 : decode cX6_tile 45 = .ok (.iload_n 1, 1) := by decide +kernel
theorem dX6_tile_46 : decode cX6_tile 46 = .ok (.iload_n 2, 1) := by decide +kernel
theorem dX6_tile_47 : decode cX6_tile 47 = .ok (.invokevirtual 223, 3) := by decide +kernel
theorem dX6_tile_50 : decode cX6_tile 50 = .ok (.ireturn, 1) := by decide +kernel
set_option maxRecDepth 20000 in
theorem ggX6_count_X6_number : GoodIn wsX6_count wsX6_number := goodIn_r _ [7, 8, 9, 10, 11, 12, 13, 14, 15, 16, 17, 18, 19, 20, 21, 22, 23, 24, 25, 26, 27, 28, 29, 30, 31, 32, 33, 34, 35, 36, 37, 38, 39, 40, 41, 42, 43, 44, 45, 46, 47, 48, 49, 50, 51, 52, 53, 54, 55, 56, 57, 6, 58, 59, 60, 61, 62, 63, 64, 65, 66, 67, 68, 69, 70, 71, 72, 73, 74, 75, 76, 77, 78, 79, 80, 81, 82, 83, 84, 85, 86, 87, 88, 89, 90, 91, 92, 93, 94, 95, 96, 97, 98, 99, 100, 101, 102, 103, 104, 105, 106, 107, 108, 109, 110, 111, 112, 113, 114, 115, 116, 117] (by decide +kernel) (by decide +kernel)
set_option maxRecDepth 20000 in
theorem gX6_count_X6_number : GoodIn wsX6_count (wsV RX6 228 RX6 yX6_number wsX6_number) := goodIn_app (goodIn_of _ (by decide +kernel)) ggX6_count_X6_number
theorem dX6_count_0 : decode cX6_count 0 = .ok (.iload_n 1, 1) := by decide +kernel
theorem dX6_count_1 : decode cX6_count 1 = .ok (.ifCond .lt 9, 3) := by decide +kernel
theorem dX6_count_4 : decode cX6_count 4 = .ok (.iload_n 1, 1) := by decide +kernel
theorem dX6_count_5 : decode cX6_count 5 = .ok (.bipush 10, 2) := by decide +kernel
theorem dX6_count_7 : decode cX6_count 7 = .ok (.if_icmp .lt 13, 3) := by decide +kernel
theorem dX6_count_10 : decode cX6_count 10 = .ok (.new 55, 3) := by decide +kernel
theorem dX6_count_13 : decode cX6_count 13 = .ok (.dup, 1) := by decide +kernel
theorem dX6_count_14 : decode cX6_count 14 = .ok (.ldc 226, 2) := by decide +kernel
theorem dX6_count_16 : decode cX6_count 16 = .ok (.invokespecial 59, 3) := by decide +kernel
theorem dX6_count_19 : decode cX6_count 19 = .ok (.athrow, 1) := by decide +kernel
theorem dX6_count_20 : decode cX6_count 20 = .ok (.aload_n 0, 1) := by decide +kernel
theorem dX6_count_21 : decode cX6_count 21 = .ok (.iload_n 1, 1) := by decide +kernel
theorem dX6_count_22 : decode cX6_count 22 = .ok (.invokevirtual 228, 3) := by decide +kernel
theorem dX6_count_25 : decode cX6_count 25 = .ok (.ireturn, 1) := by decide +kernel
set_option maxRecDepth 20000 in
theorem ggX6_layings_X4_run : GoodIn wsX6_layings wsX4_run := goodIn_r _ [9, 10, 11, 12, 13, 14, 15, 16, 17, 18, 19, 20, 21, 22, 23, 24, 25, 26, 27, 28, 29, 30, 8, 31, 32, 33, 34, 35, 36, 37, 38, 39, 40, 41, 42, 43, 44, 45, 46, 47, 48, 49, 50, 51, 52, 53, 54, 55, 56, 57, 58, 59, 60, 61, 62, 63, 64, 65, 66, 67, 68, 69, 70, 71, 72, 73, 74, 75, 76, 77, 78, 79, 80, 81, 82, 83, 84, 85, 86, 87, 88, 89, 90, 91, 92, 93, 94, 95, 96, 97, 98, 99, 100, 101, 102, 103, 104, 105, 106, 107, 118, 119, 120, 121, 122, 123, 124, 125, 126, 127, 128, 129, 130, 131, 132, 133, 134, 135, 136] (by decide +kernel) (by decide +kernel)
set_option maxRecDepth 20000 in
theorem gX6_layings_X4_run : GoodIn wsX6_layings (wsV RX6 157 RX4 yX4_run wsX4_run) := goodIn_app (goodIn_of _ (by decide +kernel)) ggX6_layings_X4_run
set_option maxRecDepth 20000 in
theorem ggX6_layings_X4_result : GoodIn wsX6_layings wsX4_result := goodIn_r _ [111, 33, 34, 35, 118, 119, 120, 121, 122, 123, 124] (by decide +kernel) (by decide +kernel)
set_option maxRecDepth 20000 in
theorem gX6_layings_X4_result : GoodIn wsX6_layings (wsV RX6 233 RX4 yX4_result wsX4_result) := goodIn_app (goodIn_of _ (by decide +kernel)) ggX6_layings_X4_result
theorem dX6_layings_0 : decode cX6_layings 0 = .ok (.iload_n 1, 1) := by decide +kernel
theorem dX6_layings_1 : decode cX6_layings 1 = .ok (.iconst 1, 1) := by decide +kernel
theorem dX6_layings_2 : decode cX6_layings 2 = .ok (.if_icmp .lt 18, 3) := by decide +kernel
theorem dX6_layings_5 : decode cX6_layings 5 = .ok (.iload_n 1, 1) := by decide +kernel
theorem dX6_layings_6 : decode cX6_layings 6 = .ok (.bipush 50, 2) := by decide +kernel
theorem dX6_layings_8 : decode cX6_layings 8 = .ok (.if_icmp .gt 12, 3) := by decide +kernel
theorem dX6_layings_11 : decode cX6_layings 11 = .ok (.iload_n 2, 1) := by decide +kernel
theorem dX6_layings_12 : decode cX6_layings 12 = .ok (.ifCond .lt 8, 3) := by decide +kernel
theorem dX6_layings_15 : decode cX6_layings 15 = .ok (.iload_n 2, 1) := by decide +kernel
theorem dX6_layings_16 : decode cX6_layings 16 = .ok (.iconst 3, 1) := by decide +kernel
theorem dX6_layings_17 : decode cX6_layings 17 = .ok (.if_icmp .lt 13, 3) := by decide +kernel
theorem dX6_layings_20 : decode cX6_layings 20 = .ok (.new 55, 3) := by decide +kernel
theorem dX6_layings_23 : decode cX6_layings 23 = .ok (.dup, 1) := by decide +kernel
theorem dX6_layings_24 : decode cX6_layings 24 = .ok (.ldc 231, 2) := by decide +kernel
theorem dX6_layings_26 : decode cX6_layings 26 = .ok (.invokespecial 59, 3) := by decide +kernel
theorem dX6_layings_29 : decode cX6_layings 29 = .ok (.athrow, 1) := by decide +kernel
theorem dX6_layings_30 : decode cX6_layings 30 = .ok (.aload_n 0, 1) := by decide +kernel
theorem dX6_layings_31 : decode cX6_layings 31 = .ok (.getfield 40, 3) := by decide +kernel
theorem dX6_layings_34 : decode cX6_layings 34 = .ok (.aload_n 0, 1) := by decide +kernel
theorem dX6_layings_35 : decode cX6_layings 35 = .ok (.getfield 12, 3) := by decide +kernel
theorem dX6_layings_38 : decode cX6_layings 38 = .ok (.iload_n 1, 1) := by decide +kernel
theorem dX6_layings_39 : decode cX6_layings 39 = .ok (.invokevirtual 157, 3) := by decide +kernel
theorem dX6_layings_42 : decode cX6_layings 42 = .ok (.aload_n 0, 1) := by decide +kernel
theorem dX6_layings_43 : decode cX6_layings 43 = .ok (.getfield 40, 3) := by decide +kernel
theorem dX6_layings_46 : decode cX6_layings 46 = .ok (.iload_n 2, 1) := by decide +kernel
theorem dX6_layings_47 : decode cX6_layings 47 = .ok (.invokevirtual 233, 3) := by decide +kernel
theorem dX6_layings_50 : decode cX6_layings 50 = .ok (.ireturn, 1) := by decide +kernel
set_option maxRecDepth 20000 in
theorem ggX6_hint_X6_bestStep : GoodIn wsX6_hint wsX6_bestStep := goodIn_r _ [5, 6, 7, 8, 9, 10, 11, 12, 13, 14, 15, 16, 4, 17, 18, 19, 20, 21, 22, 23, 24, 25, 26, 27, 28, 29, 30, 31, 32, 33, 34, 35, 36, 37, 38, 39, 40, 41, 42, 43, 44, 45, 46, 47, 48, 49, 50, 51, 52, 53, 54, 55, 56, 57, 58, 59, 60, 61, 62, 63, 64, 65, 66, 67, 68, 69, 70, 71, 72, 73, 74, 75, 76, 77, 78, 79, 80, 81, 82, 83, 84, 85, 86, 87, 88, 89, 90, 91, 92, 93, 94, 95, 96] (by decide +kernel) (by decide +kernel)
set_option maxRecDepth 20000 in
theorem gX6_hint_X6_bestStep : GoodIn wsX6_hint (wsV RX6 236 RX6 yX6_bestStep wsX6_bestStep) := goodIn_app (goodIn_of _ (by decide +kernel)) ggX6_hint_X6_bestStep
theorem dX6_hint_0 : decode cX6_hint 0 = .ok (.aload_n 0, 1) := by decide +kernel
theorem dX6_hint_1 : decode cX6_hint 1 = .ok (.invokevirtual 236, 3) := by decide +kernel
theorem dX6_hint_4 : decode cX6_hint 4 = .ok (.ireturn, 1) := by decide +kernel
set_option maxRecDepth 20000 in
theorem ggX6_why_X6_requirePlacing : GoodIn wsX6_why wsX6_requirePlacing := goodIn_ca (goodIn_r _ [5, 6, 7, 8, 9, 10, 11, 4, 12, 13, 14, 15, 16, 17, 18, 19, 20, 21, 22, 23, 24, 25, 26, 27, 28, 84, 85, 86, 87, 88, 89, 90, 91, 92, 93, 94, 95, 96, 97] (by decide +kernel) (by decide +kernel)) (goodIn_sub (fun _ h => List.mem_cons_of_mem _ (List.mem_append_right _ h)) (by decide +kernel))
set_option maxRecDepth 20000 in
theorem gX6_why_X6_requirePlacing : GoodIn wsX6_why (wsV RX6 111 RX6 yX6_requirePlacing wsX6_requirePlacing) := goodIn_app (goodIn_of _ (by decide +kernel)) ggX6_why_X6_requirePlacing
set_option maxRecDepth 20000 in
theorem ggX6_why_X6_reason : GoodIn wsX6_why wsX6_reason := goodIn_r _ [32, 8, 33, 34, 35, 36, 37, 16, 38, 39, 40, 41, 42, 43, 44, 45, 46, 47, 48, 49, 50, 51, 52, 53, 54, 55, 56, 57, 58, 59, 60, 61, 62, 23, 18, 19, 20, 21, 22, 63, 64, 65, 66, 67, 68, 69, 4, 70, 71, 72, 73, 74, 75, 76, 77, 78, 79, 80, 81, 82, 83, 84, 85, 86, 87, 88, 89, 90, 91, 92, 93, 94, 95, 96, 97, 98, 99, 100, 101] (by decide +kernel) (by decide +kernel)
set_option maxRecDepth 20000 in
theorem gX6_why_X6_reason : GoodIn wsX6_why (wsV RX6 114 RX6 yX6_reason wsX6_reason) := goodIn_app (goodIn_of _ (by decide +kernel)) ggX6_why_X6_reason
theorem dX6_why_0 : decode cX6_why 0 = .ok (.aload_n 0, 1) := by decide +kernel
theorem dX6_why_1 : decode cX6_why 1 = .ok (.iload_n 1, 1) := by decide +kernel
theorem dX6_why_2 : decode cX6_why 2 = .ok (.iload_n 2, 1) := by decide +kernel
theorem dX6_why_3 : decode cX6_why 3 = .ok (.invokevirtual 111, 3) := by decide +kernel
theorem dX6_why_6 : decode cX6_why 6 = .ok (.aload_n 0, 1) := by decide +kernel
theorem dX6_why_7 : decode cX6_why 7 = .ok (.iload_n 1, 1) := by decide +kernel
theorem dX6_why_8 : decode cX6_why 8 = .ok (.iload_n 2, 1) := by decide +kernel
theorem dX6_why_9 : decode cX6_why 9 = .ok (.invokevirtual 114, 3) := by decide +kernel
theorem dX6_why_12 : decode cX6_why 12 = .ok (.ireturn, 1) := by decide +kernel
set_option maxRecDepth 20000 in
theorem ggX6_fitting_X6_fittingPart : GoodIn wsX6_fitting wsX6_fittingPart := goodIn_r _ [5, 6, 7, 8, 9, 10, 11, 12, 13, 14, 15, 16, 17, 18, 19, 20, 21, 22, 23, 24, 25, 26, 27, 28, 29, 30, 31, 32, 33, 34, 35, 36, 37, 4, 38, 39, 40, 41, 42, 43, 44, 45, 46, 47, 48, 49, 50, 51, 52, 53, 54, 55] (by decide +kernel) (by decide +kernel)
set_option maxRecDepth 20000 in
theorem gX6_fitting_X6_fittingPart : GoodIn wsX6_fitting (wsV RX6 248 RX6 yX6_fittingPart wsX6_fittingPart) := goodIn_app (goodIn_of _ (by decide +kernel)) ggX6_fitting_X6_fittingPart
theorem dX6_fitting_0 : decode cX6_fitting 0 = .ok (.aload_n 0, 1) := by decide +kernel
theorem dX6_fitting_1 : decode cX6_fitting 1 = .ok (.invokevirtual 248, 3) := by decide +kernel
theorem dX6_fitting_4 : decode cX6_fitting 4 = .ok (.dreturn, 1) := by decide +kernel
set_option maxRecDepth 20000 in
theorem ggX6_requireCell_X0_hasCell : GoodIn wsX6_requireCell wsX0_hasCell := goodIn_r _ [8, 9, 10, 11, 7, 12, 13, 14, 21, 22, 23, 24, 25, 26, 27, 28] (by decide +kernel) (by decide +kernel)
set_option maxRecDepth 20000 in
theorem gX6_requireCell_X0_hasCell : GoodIn wsX6_requireCell (wsV RX6 267 RX0 yX0_hasCell wsX0_hasCell) := goodIn_app (goodIn_of _ (by decide +kernel)) ggX6_requireCell_X0_hasCell
theorem dX6_requireCell_0 : decode cX6_requireCell 0 = .ok (.aload_n 0, 1) := by decide +kernel
theorem dX6_requireCell_1 : decode cX6_requireCell 1 = .ok (.getfield 12, 3) := by decide +kernel
theorem dX6_requireCell_4 : decode cX6_requireCell 4 = .ok (.iload_n 1, 1) := by decide +kernel
theorem dX6_requireCell_5 : decode cX6_requireCell 5 = .ok (.invokevirtual 267, 3) := by decide +kernel
theorem dX6_requireCell_8 : decode cX6_requireCell 8 = .ok (.ifCond .ne 14, 3) := by decide +kernel
theorem dX6_requireCell_11 : decode cX6_requireCell 11 = .ok (.new 212, 3) := by decide +kernel
theorem dX6_requireCell_14 : decode cX6_requireCell 14 = .ok (.dup, 1) := by decide +kernel
theorem dX6_requireCell_15 : decode cX6_requireCell 15 = .ok (.ldc_w 270, 3) := by decide +kernel
theorem dX6_requireCell_18 : decode cX6_requireCell 18 = .ok (.invokespecial 216, 3) := by decide +kernel
theorem dX6_requireCell_21 : decode cX6_requireCell 21 = .ok (.athrow, 1) := by decide +kernel
theorem dX6_requireCell_22 : decode cX6_requireCell 22 = .ok (.return_, 1) := by decide +kernel
set_option maxRecDepth 20000 in
theorem ggX6_requirePlacing_X6_requireCell : GoodIn wsX6_requirePlacing wsX6_requireCell := goodIn_ca (goodIn_r _ [8, 1, 2, 3, 9, 10, 11, 12, 13, 14, 15, 16, 17, 18, 19, 25, 26, 27, 28, 29, 30, 31, 32, 33, 34, 35, 36, 37, 38] (by decide +kernel) (by decide +kernel)) (goodIn_sub (fun _ h => List.mem_cons_of_mem _ (List.mem_append_right _ h)) (by decide +kernel))
set_option maxRecDepth 20000 in
theorem gX6_requirePlacing_X6_requireCell : GoodIn wsX6_requirePlacing (wsV RX6 126 RX6 yX6_requireCell wsX6_requireCell) := goodIn_app (goodIn_of _ (by decide +kernel)) ggX6_requirePlacing_X6_requireCell
set_option maxRecDepth 20000 in
theorem ggX6_requirePlacing_X0_hasPlacing : GoodIn wsX6_requirePlacing wsX0_hasPlacing := goodIn_r _ [23, 24, 31, 32, 33, 34, 35, 36, 37, 38] (by decide +kernel) (by decide +kernel)
set_option maxRecDepth 20000 in
theorem gX6_requirePlacing_X0_hasPlacing : GoodIn wsX6_requirePlacing (wsV RX6 272 RX0 yX0_hasPlacing wsX0_hasPlacing) := goodIn_app (goodIn_of _ (by decide +kernel)) ggX6_requirePlacing_X0_hasPlacing
theorem dX6_requirePlacing_0 : decode cX6_requirePlacing 0 = .ok (.aload_n 0, 1) := by decide +kernel
theorem dX6_requirePlacing_1 : decode cX6_requirePlacing 1 = .ok (.iload_n 1, 1) := by decide +kernel
theorem dX6_requirePlacing_2 : decode cX6_requirePlacing 2 = .ok (.invokevirtual 126, 3) := by decide +kernel
theorem dX6_requirePlacing_5 : decode cX6_requirePlacing 5 = .ok (.aload_n 0, 1) := by decide +kernel
theorem dX6_requirePlacing_6 : decode cX6_requirePlacing 6 = .ok (.getfield 12, 3) := by decide +kernel
theorem dX6_requirePlacing_9 : decode cX6_requirePlacing 9 = .ok (.iload_n 2, 1) := by decide +kernel
theorem dX6_requirePlacing_10 : decode cX6_requirePlacing 10 = .ok (.invokevirtual 272, 3) := by decide +kernel
theorem dX6_requirePlacing_13 : decode cX6_requirePlacing 13 = .ok (.ifCond .ne 13, 3) := by decide +kernel
theorem dX6_requirePlacing_16 : decode cX6_requirePlacing 16 = .ok (.new 212, 3) := by decide +kernel
theorem dX6_requirePlacing_19 : decode cX6_requirePlacing 19 = .ok (.dup, 1) := by decide +kernel
theorem dX6_requirePlacing_20 : decode cX6_requirePlacing 20 = .ok (.ldc 221, 2) := by decide +kernel
theorem dX6_requirePlacing_22 : decode cX6_requirePlacing 22 = .ok (.invokespecial 216, 3) := by decide +kernel
theorem dX6_requirePlacing_25 : decode cX6_requirePlacing 25 = .ok (.athrow, 1) := by decide +kernel
theorem dX6_requirePlacing_26 : decode cX6_requirePlacing 26 = .ok (.return_, 1) := by decide +kernel
set_option maxRecDepth 20000 in
theorem ggX6_reason_X0_isEmpty : GoodIn wsX6_reason wsX0_isEmpty := goodIn_r _ [8, 9, 67, 68, 69, 70, 71, 72, 73, 74] (by decide +kernel) (by decide +kernel)
set_option maxRecDepth 20000 in
theorem gX6_reason_X0_isEmpty : GoodIn wsX6_reason (wsV RX6 130 RX0 yX0_isEmpty wsX0_isEmpty) := goodIn_app (goodIn_of _ (by decide +kernel)) ggX6_reason_X0_isEmpty
set_option maxRecDepth 20000 in
theorem ggX6_reason_X0_isLaid : GoodIn wsX6_reason wsX0_isLaid := goodIn_r _ [13, 14, 67, 68, 69, 70, 71, 72, 73, 74] (by decide +kernel) (by decide +kernel)
set_option maxRecDepth 20000 in
theorem gX6_reason_X0_isLaid : GoodIn wsX6_reason (wsV RX6 84 RX0 yX0_isLaid wsX0_isLaid) := goodIn_app (goodIn_of _ (by decide +kernel)) ggX6_reason_X0_isLaid
set_option maxRecDepth 20000 in
theorem ggX6_reason_X3_read : GoodIn wsX6_reason wsX3_read := goodIn_r _ [19, 20, 21, 22, 23, 24, 25, 26, 18, 27, 28, 29, 30, 31, 7, 32, 33, 34, 35, 36, 37, 38, 39, 5, 6, 8, 9, 40, 41, 42, 43, 44, 45, 46, 47, 48, 49, 50, 51, 52, 53, 54, 55, 75, 76, 77, 78, 67, 68, 69, 70, 71, 72, 73, 74] (by decide +kernel) (by decide +kernel)
set_option maxRecDepth 20000 in
theorem gX6_reason_X3_read : GoodIn wsX6_reason (wsV RX6 275 RX3 yX3_read wsX3_read) := goodIn_app (goodIn_of _ (by decide +kernel)) ggX6_reason_X3_read
set_option maxRecDepth 20000 in
theorem ggX6_reason_X3_reasonAgainst : GoodIn wsX6_reason wsX3_reasonAgainst := goodIn_r _ [59, 20, 22, 21, 60, 23, 75, 76, 77, 78] (by decide +kernel) (by decide +kernel)
set_option maxRecDepth 20000 in
theorem gX6_reason_X3_reasonAgainst : GoodIn wsX6_reason (wsV RX6 281 RX3 yX3_reasonAgainst wsX3_reasonAgainst) := goodIn_app (goodIn_of _ (by decide +kernel)) ggX6_reason_X3_reasonAgainst
theorem dX6_reason_0 : decode cX6_reason 0 = .ok (.aload_n 0, 1) := by decide +kernel
theorem dX6_reason_1 : decode cX6_reason 1 = .ok (.getfield 12, 3) := by decide +kernel
theorem dX6_reason_4 : decode cX6_reason 4 = .ok (.iload_n 1, 1) := by decide +kernel
theorem dX6_reason_5 : decode cX6_reason 5 = .ok (.invokevirtual 130, 3) := by decide +kernel
theorem dX6_reason_8 : decode cX6_reason 8 = .ok (.ifCond .ne 5, 3) := by decide +kernel
theorem dX6_reason_11 : decode cX6_reason 11 = .ok (.iconst 1, 1) := by decide +kernel
theorem dX6_reason_12 : decode cX6_reason 12 = .ok (.ireturn, 1) := by decide +kernel
theorem dX6_reason_13 : decode cX6_reason 13 = .ok (.aload_n 0, 1) := by decide +kernel
theorem dX6_reason_14 : decode cX6_reason 14 = .ok (.getfield 12, 3) := by decide +kernel
theorem dX6_reason_17 : decode cX6_reason 17 = .ok (.iload_n 2, 1) := by decide +kernel
theorem dX6_reason_18 : decode cX6_reason 18 = .ok (.bipush 8, 2) := by decide +kernel
theorem dX6_reason_20 : decode cX6_reason 20 = .ok (.idiv, 1) := by decide +kernel
theorem dX6_reason_21 : decode cX6_reason 21 = .ok (.invokevirtual 84, 3) := by decide +kernel
theorem dX6_reason_24 : decode cX6_reason 24 = .ok (.ifCond .eq 5, 3) := by decide +kernel
theorem dX6_reason_27 : decode cX6_reason 27 = .ok (.iconst 2, 1) := by decide +kernel
theorem dX6_reason_28 : decode cX6_reason 28 = .ok (.ireturn, 1) := by decide +kernel
theorem dX6_reason_29 : decode cX6_reason 29 = .ok (.aload_n 0, 1) := by decide +kernel
theorem dX6_reason_30 : decode cX6_reason 30 = .ok (.getfield 33, 3) := by decide +kernel
theorem dX6_reason_33 : decode cX6_reason 33 = .ok (.aload_n 0, 1) := by decide +kernel
theorem dX6_reason_34 : decode cX6_reason 34 = .ok (.getfield 12, 3) := by decide +kernel
theorem dX6_reason_37 : decode cX6_reason 37 = .ok (.iload_n 1, 1) := by decide +kernel
theorem dX6_reason_38 : decode cX6_reason 38 = .ok (.invokevirtual 275, 3) := by decide +kernel
theorem dX6_reason_41 : decode cX6_reason 41 = .ok (.aload_n 0, 1) := by decide +kernel
theorem dX6_reason_42 : decode cX6_reason 42 = .ok (.getfield 33, 3) := by decide +kernel
theorem dX6_reason_45 : decode cX6_reason 45 = .ok (.aload_n 0, 1) := by decide +kernel
theorem dX6_reason_46 : decode cX6_reason 46 = .ok (.getfield 12, 3) := by decide +kernel
theorem dX6_reason_49 : decode cX6_reason 49 = .ok (.getfield 278, 3) := by decide +kernel
theorem dX6_reason_52 : decode cX6_reason 52 = .ok (.iload_n 2, 1) := by decide +kernel
theorem dX6_reason_53 : decode cX6_reason 53 = .ok (.iaload, 1) := by decide +kernel
theorem dX6_reason_54 : decode cX6_reason 54 = .ok (.invokevirtual 281, 3) := by decide +kernel
theorem dX6_reason_57 : decode cX6_reason 57 = .ok (.ireturn, 1) := by decide +kernel
set_option maxRecDepth 20000 in
theorem ggX6_cellProperty_X0_isFixed : GoodIn wsX6_cellProperty wsX0_isFixed := goodIn_r _ [7, 8, 86, 87, 88, 89, 90, 91, 92, 93] (by decide +kernel) (by decide +kernel)
set_option maxRecDepth 20000 in
theorem gX6_cellProperty_X0_isFixed : GoodIn wsX6_cellProperty (wsV RX6 133 RX0 yX0_isFixed wsX0_isFixed) := goodIn_app (goodIn_of _ (by decide +kernel)) ggX6_cellProperty_X0_isFixed
set_option maxRecDepth 20000 in
theorem ggX6_cellProperty_X6_possibleCount : GoodIn wsX6_cellProperty wsX6_possibleCount := goodIn_r _ [13, 1, 14, 15, 16, 17, 18, 6, 19, 20, 21, 22, 23, 24, 25, 26, 27, 28, 29, 30, 31, 32, 33, 34, 35, 36, 37, 38, 39, 40, 41, 42, 43, 44, 45, 46, 47, 48, 49, 50, 51, 12, 52, 53, 54, 55, 56, 57, 58, 59, 60, 61, 62, 63, 64, 65, 66, 67, 68, 69, 70, 71, 72, 73, 74, 75, 80, 81, 82, 83, 84, 85, 86, 87, 88, 89, 90, 91, 92, 93, 94, 95, 96, 97] (by decide +kernel) (by decide +kernel)
set_option maxRecDepth 20000 in
theorem gX6_cellProperty_X6_possibleCount : GoodIn wsX6_cellProperty (wsV RX6 284 RX6 yX6_possibleCount wsX6_possibleCount) := goodIn_app (goodIn_of _ (by decide +kernel)) ggX6_cellProperty_X6_possibleCount
set_option maxRecDepth 20000 in
theorem ggX6_cellProperty_X6_firstPossible : GoodIn wsX6_cellProperty wsX6_firstPossible := goodIn_r _ [79, 1, 14, 15, 16, 17, 18, 6, 19, 20, 21, 22, 23, 24, 25, 26, 27, 28, 29, 30, 31, 32, 33, 34, 35, 36, 37, 38, 39, 40, 41, 42, 43, 44, 45, 46, 47, 48, 49, 50, 51, 12, 52, 53, 54, 55, 56, 57, 58, 59, 60, 61, 62, 63, 64, 65, 66, 67, 68, 69, 70, 71, 72, 73, 74, 75, 80, 81, 82, 83, 84, 85, 86, 87, 88, 89, 90, 91, 92, 93, 94, 95, 96, 97] (by decide +kernel) (by decide +kernel)
set_option maxRecDepth 20000 in
theorem gX6_cellProperty_X6_firstPossible : GoodIn wsX6_cellProperty (wsV RX6 287 RX6 yX6_firstPossible wsX6_firstPossible) := goodIn_app (goodIn_of _ (by decide +kernel)) ggX6_cellProperty_X6_firstPossible
theorem dX6_cellProperty_0 : decode cX6_cellProperty 0 = .ok (.iload_n 2, 1) := by decide +kernel
theorem dX6_cellProperty_1 : decode cX6_cellProperty 1 = .ok (.tableswitch 60 0 2 #[27, 37, 54], 27) := by decide +kernel
theorem dX6_cellProperty_28 : decode cX6_cellProperty 28 = .ok (.aload_n 0, 1) := by decide +kernel
theorem dX6_cellProperty_29 : decode cX6_cellProperty 29 = .ok (.getfield 12, 3) := by decide +kernel
theorem dX6_cellProperty_32 : decode cX6_cellProperty 32 = .ok (.getfield 138, 3) := by decide +kernel
theorem dX6_cellProperty_35 : decode cX6_cellProperty 35 = .ok (.iload_n 1, 1) := by decide +kernel
theorem dX6_cellProperty_36 : decode cX6_cellProperty 36 = .ok (.iaload, 1) := by decide +kernel
theorem dX6_cellProperty_37 : decode cX6_cellProperty 37 = .ok (.ireturn, 1) := by decide +kernel
theorem dX6_cellProperty_38 : decode cX6_cellProperty 38 = .ok (.aload_n 0, 1) := by decide +kernel
theorem dX6_cellProperty_39 : decode cX6_cellProperty 39 = .ok (.getfield 12, 3) := by decide +kernel
theorem dX6_cellProperty_42 : decode cX6_cellProperty 42 = .ok (.iload_n 1, 1) := by decide +kernel
theorem dX6_cellProperty_43 : decode cX6_cellProperty 43 = .ok (.invokevirtual 133, 3) := by decide +kernel
theorem dX6_cellProperty_46 : decode cX6_cellProperty 46 = .ok (.ifCond .eq 7, 3) := by decide +kernel
theorem dX6_cellProperty_49 : decode cX6_cellProperty 49 = .ok (.iconst 1, 1) := by decide +kernel
theorem dX6_cellProperty_50 : decode cX6_cellProperty 50 = .ok (.goto 4, 3) := by decide +kernel
theorem dX6_cellProperty_53 : decode cX6_cellProperty 53 = .ok (.iconst 0, 1) := by decide +kernel
theorem dX6_cellProperty_54 : decode cX6_cellProperty 54 = .ok (.ireturn, 1) := by decide +kernel
theorem dX6_cellProperty_55 : decode cX6_cellProperty 55 = .ok (.aload_n 0, 1) := by decide +kernel
theorem dX6_cellProperty_56 : decode cX6_cellProperty 56 = .ok (.iload_n 1, 1) := by decide +kernel
theorem dX6_cellProperty_57 : decode cX6_cellProperty 57 = .ok (.invokevirtual 284, 3) := by decide +kernel
theorem dX6_cellProperty_60 : decode cX6_cellProperty 60 = .ok (.ireturn, 1) := by decide +kernel
theorem dX6_cellProperty_61 : decode cX6_cellProperty 61 = .ok (.aload_n 0, 1) := by decide +kernel
theorem dX6_cellProperty_62 : decode cX6_cellProperty 62 = .ok (.iload_n 1, 1) := by decide +kernel
theorem dX6_cellProperty_63 : decode cX6_cellProperty 63 = .ok (.invokevirtual 287, 3) := by decide +kernel
theorem dX6_cellProperty_66 : decode cX6_cellProperty 66 = .ok (.ireturn, 1) := by decide +kernel
set_option maxRecDepth 20000 in
theorem ggX6_possibleCount_X0_isEmpty : GoodIn wsX6_possibleCount wsX0_isEmpty := goodIn_r _ [8, 9, 72, 73, 74, 75, 76, 77, 78, 79] (by decide +kernel) (by decide +kernel)
set_option maxRecDepth 20000 in
theorem gX6_possibleCount_X0_isEmpty : GoodIn wsX6_possibleCount (wsV RX6 130 RX0 yX0_isEmpty wsX0_isEmpty) := goodIn_app (goodIn_of _ (by decide +kernel)) ggX6_possibleCount_X0_isEmpty
set_option maxRecDepth 20000 in
theorem ggX6_possibleCount_X3_read : GoodIn wsX6_possibleCount wsX3_read := goodIn_r _ [14, 15, 16, 17, 18, 19, 20, 21, 13, 22, 23, 24, 25, 26, 7, 27, 28, 29, 30, 31, 32, 33, 34, 5, 6, 8, 9, 35, 36, 37, 38, 39, 40, 41, 42, 43, 44, 45, 46, 47, 48, 49, 50, 80, 81, 82, 83, 72, 73, 74, 75, 76, 77, 78, 79] (by decide +kernel) (by decide +kernel)
set_option maxRecDepth 20000 in
theorem gX6_possibleCount_X3_read : GoodIn wsX6_possibleCount (wsV RX6 275 RX3 yX3_read wsX3_read) := goodIn_app (goodIn_of _ (by decide +kernel)) ggX6_possibleCount_X3_read
set_option maxRecDepth 20000 in
theorem ggX6_possibleCount_X6_meetsNeeds : GoodIn wsX6_possibleCount wsX6_meetsNeeds := goodIn_r _ [54, 1, 2, 55, 56, 57, 58, 7, 59, 60, 61, 62, 63, 13, 64, 15, 17, 16, 65, 18, 66, 67, 68, 69, 70, 71, 72, 73, 74, 75, 76, 77, 78, 79, 80, 81, 82, 83] (by decide +kernel) (by decide +kernel)
set_option maxRecDepth 20000 in
theorem gX6_possibleCount_X6_meetsNeeds : GoodIn wsX6_possibleCount (wsV RX6 290 RX6 yX6_meetsNeeds wsX6_meetsNeeds) := goodIn_app (goodIn_of _ (by decide +kernel)) ggX6_possibleCount_X6_meetsNeeds
theorem dX6_possibleCount_0 : decode cX6_possibleCount 0 = .ok (.aload_n 0, 1) := by decide +kernel
theorem dX6_possibleCount_1 : decode cX6_possibleCount 1 = .ok (.getfield 12, 3) := by decide +kernel
theorem dX6_possibleCount_4 : decode cX6_possibleCount 4 = .ok (.iload_n 1, 1) := by decide +kernel
theorem dX6_possibleCount_5 : decode cX6_possibleCount 5 = .ok (.invokevirtual 130, 3) := by decide +kernel
theorem dX6_possibleCount_8 : decode cX6_possibleCount 8 = .ok (.ifCond .ne 5, 3) := by decide +kernel
theorem dX6_possibleCount_11 : decode cX6_possibleCount 11 = .ok (.iconst 0, 1) := by decide +kernel
theorem dX6_possibleCount_12 : decode cX6_possibleCount 12 = .ok (.ireturn, 1) := by decide +kernel
theorem dX6_possibleCount_13 : decode cX6_possibleCount 13 = .ok (.aload_n 0, 1) := by decide +kernel
theorem dX6_possibleCount_14 : decode cX6_possibleCount 14 = .ok (.getfield 33, 3) := by decide +kernel
theorem dX6_possibleCount_17 : decode cX6_possibleCount 17 = .ok (.aload_n 0, 1) := by decide +kernel
theorem dX6_possibleCount_18 : decode cX6_possibleCount 18 = .ok (.getfield 12, 3) := by decide +kernel
theorem dX6_possibleCount_21 : decode cX6_possibleCount 21 = .ok (.iload_n 1, 1) := by decide +kernel
theorem dX6_possibleCount_22 : decode cX6_possibleCount 22 = .ok (.invokevirtual 275, 3) := by decide +kernel
theorem dX6_possibleCount_25 : decode cX6_possibleCount 25 = .ok (.iconst 0, 1) := by decide +kernel
theorem dX6_possibleCount_26 : decode cX6_possibleCount 26 = .ok (.istore_n 2, 1) := by decide +kernel
theorem dX6_possibleCount_27 : decode cX6_possibleCount 27 = .ok (.iconst 0, 1) := by decide +kernel
theorem dX6_possibleCount_28 : decode cX6_possibleCount 28 = .ok (.istore_n 3, 1) := by decide +kernel
theorem dX6_possibleCount_29 : decode cX6_possibleCount 29 = .ok (.iload_n 3, 1) := by decide +kernel
theorem dX6_possibleCount_30 : decode cX6_possibleCount 30 = .ok (.bipush 8, 2) := by decide +kernel
theorem dX6_possibleCount_32 : decode cX6_possibleCount 32 = .ok (.aload_n 0, 1) := by decide +kernel
theorem dX6_possibleCount_33 : decode cX6_possibleCount 33 = .ok (.getfield 12, 3) := by decide +kernel
theorem dX6_possibleCount_36 : decode cX6_possibleCount 36 = .ok (.getfield 72, 3) := by decide +kernel
theorem dX6_possibleCount_39 : decode cX6_possibleCount 39 = .ok (.imul, 1) := by decide +kernel
theorem dX6_possibleCount_40 : decode cX6_possibleCount 40 = .ok (.if_icmp .ge 20, 3) := by decide +kernel
theorem dX6_possibleCount_43 : decode cX6_possibleCount 43 = .ok (.aload_n 0, 1) := by decide +kernel
theorem dX6_possibleCount_44 : decode cX6_possibleCount 44 = .ok (.iload_n 3, 1) := by decide +kernel
theorem dX6_possibleCount_45 : decode cX6_possibleCount 45 = .ok (.invokevirtual 290, 3) := by decide +kernel
theorem dX6_possibleCount_48 : decode cX6_possibleCount 48 = .ok (.ifCond .eq 6, 3) := by decide +kernel
theorem dX6_possibleCount_51 : decode cX6_possibleCount 51 = .ok (.iinc 2 1, 3) := by decide +kernel
theorem dX6_possibleCount_54 : decode cX6_possibleCount 54 = .ok (.iinc 3 1, 3) := by decide +kernel
theorem dX6_possibleCount_57 : decode cX6_possibleCount 57 = .ok (.goto (-28), 3) := by decide +kernel
theorem dX6_possibleCount_60 : decode cX6_possibleCount 60 = .ok (.iload_n 2, 1) := by decide +kernel
theorem dX6_possibleCount_61 : decode cX6_possibleCount 61 = .ok (.ireturn, 1) := by decide +kernel
set_option maxRecDepth 20000 in
theorem ggX6_firstPossible_X0_isEmpty : GoodIn wsX6_firstPossible wsX0_isEmpty := goodIn_r _ [8, 9, 72, 73, 74, 75, 76, 77, 78, 79] (by decide +kernel) (by decide +kernel)
set_option maxRecDepth 20000 in
theorem gX6_firstPossible_X0_isEmpty : GoodIn wsX6_firstPossible (wsV RX6 130 RX0 yX0_isEmpty wsX0_isEmpty) := goodIn_app (goodIn_of _ (by decide +kernel)) ggX6_firstPossible_X0_isEmpty
set_option maxRecDepth 20000 in
theorem ggX6_firstPossible_X3_read : GoodIn wsX6_firstPossible wsX3_read := goodIn_r _ [14, 15, 16, 17, 18, 19, 20, 21, 13, 22, 23, 24, 25, 26, 7, 27, 28, 29, 30, 31, 32, 33, 34, 5, 6, 8, 9, 35, 36, 37, 38, 39, 40, 41, 42, 43, 44, 45, 46, 47, 48, 49, 50, 80, 81, 82, 83, 72, 73, 74, 75, 76, 77, 78, 79] (by decide +kernel) (by decide +kernel)
set_option maxRecDepth 20000 in
theorem gX6_firstPossible_X3_read : GoodIn wsX6_firstPossible (wsV RX6 275 RX3 yX3_read wsX3_read) := goodIn_app (goodIn_of _ (by decide +kernel)) ggX6_firstPossible_X3_read
set_option maxRecDepth 20000 in
theorem ggX6_firstPossible_X6_meetsNeeds : GoodIn wsX6_firstPossible wsX6_meetsNeeds := goodIn_r _ [54, 1, 2, 55, 56, 57, 58, 7, 59, 60, 61, 62, 63, 13, 64, 15, 17, 16, 65, 18, 66, 67, 68, 69, 70, 71, 72, 73, 74, 75, 76, 77, 78, 79, 80, 81, 82, 83] (by decide +kernel) (by decide +kernel)
set_option maxRecDepth 20000 in
theorem gX6_firstPossible_X6_meetsNeeds : GoodIn wsX6_firstPossible (wsV RX6 290 RX6 yX6_meetsNeeds wsX6_meetsNeeds) := goodIn_app (goodIn_of _ (by decide +kernel)) ggX6_firstPossible_X6_meetsNeeds
theorem dX6_firstPossible_0 : decode cX6_firstPossible 0 = .ok (.aload_n 0, 1) := by decide +kernel
theorem dX6_firstPossible_1 : decode cX6_firstPossible 1 = .ok (.getfield 12, 3) := by decide +kernel
theorem dX6_firstPossible_4 : decode cX6_firstPossible 4 = .ok (.iload_n 1, 1) := by decide +kernel
theorem dX6_firstPossible_5 : decode cX6_firstPossible 5 = .ok (.invokevirtual 130, 3) := by decide +kernel
theorem dX6_firstPossible_8 : decode cX6_firstPossible 8 = .ok (.ifCond .ne 5, 3) := by decide +kernel
theorem dX6_firstPossible_11 : decode cX6_firstPossible 11 = .ok (.iconst (-1), 1) := by decide +kernel
theorem dX6_firstPossible_12 : decode cX6_firstPossible 12 = .ok (.ireturn, 1) := by decide +kernel
theorem dX6_firstPossible_13 : decode cX6_firstPossible 13 = .ok (.aload_n 0, 1) := by decide +kernel
theorem dX6_firstPossible_14 : decode cX6_firstPossible 14 = .ok (.getfield 33, 3) := by decide +kernel
theorem dX6_firstPossible_17 : decode cX6_firstPossible 17 = .ok (.aload_n 0, 1) := by decide +kernel
theorem dX6_firstPossible_18 : decode cX6_firstPossible 18 = .ok (.getfield 12, 3) := by decide +kernel
theorem dX6_firstPossible_21 : decode cX6_firstPossible 21 = .ok (.iload_n 1, 1) := by decide +kernel
theorem dX6_firstPossible_22 : decode cX6_firstPossible 22 = .ok (.invokevirtual 275, 3) := by decide +kernel
theorem dX6_firstPossible_25 : decode cX6_firstPossible 25 = .ok (.iconst 0, 1) := by decide +kernel
theorem dX6_firstPossible_26 : decode cX6_firstPossible 26 = .ok (.istore_n 2, 1) := by decide +kernel
theorem dX6_firstPossible_27 : decode cX6_firstPossible 27 = .ok (.iload_n 2, 1) := by decide +kernel
theorem dX6_firstPossible_28 : decode cX6_firstPossible 28 = .ok (.bipush 8, 2) := by decide +kernel
theorem dX6_firstPossible_30 : decode cX6_firstPossible 30 = .ok (.aload_n 0, 1) := by decide +kernel
theorem dX6_firstPossible_31 : decode cX6_firstPossible 31 = .ok (.getfield 12, 3) := by decide +kernel
theorem dX6_firstPossible_34 : decode cX6_firstPossible 34 = .ok (.getfield 72, 3) := by decide +kernel
theorem dX6_firstPossible_37 : decode cX6_firstPossible 37 = .ok (.imul, 1) := by decide +kernel
theorem dX6_firstPossible_38 : decode cX6_firstPossible 38 = .ok (.if_icmp .ge 19, 3) := by decide +kernel
theorem dX6_firstPossible_41 : decode cX6_firstPossible 41 = .ok (.aload_n 0, 1) := by decide +kernel
theorem dX6_firstPossible_42 : decode cX6_firstPossible 42 = .ok (.iload_n 2, 1) := by decide +kernel
theorem dX6_firstPossible_43 : decode cX6_firstPossible 43 = .ok (.invokevirtual 290, 3) := by decide +kernel
theorem dX6_firstPossible_46 : decode cX6_firstPossible 46 = .ok (.ifCond .eq 5, 3) := by decide +kernel
theorem dX6_firstPossible_49 : decode cX6_firstPossible 49 = .ok (.iload_n 2, 1) := by decide +kernel
theorem dX6_firstPossible_50 : decode cX6_firstPossible 50 = .ok (.ireturn, 1) := by decide +kernel
theorem dX6_firstPossible_51 : decode cX6_firstPossible 51 = .ok (.iinc 2 1, 3) := by decide +kernel
theorem dX6_firstPossible_54 : decode cX6_firstPossible 54 = .ok (.goto (-27), 3) := by decide +kernel
theorem dX6_firstPossible_57 : decode cX6_firstPossible 57 = .ok (.iconst (-1), 1) := by decide +kernel
theorem dX6_firstPossible_58 : decode cX6_firstPossible 58 = .ok (.ireturn, 1) := by decide +kernel
set_option maxRecDepth 20000 in
theorem ggX6_meetsNeeds_X0_isLaid : GoodIn wsX6_meetsNeeds wsX0_isLaid := goodIn_r _ [8, 9, 26, 27, 28, 29, 30, 31, 32, 33] (by decide +kernel) (by decide +kernel)
set_option maxRecDepth 20000 in
theorem gX6_meetsNeeds_X0_isLaid : GoodIn wsX6_meetsNeeds (wsV RX6 84 RX0 yX0_isLaid wsX0_isLaid) := goodIn_app (goodIn_of _ (by decide +kernel)) ggX6_meetsNeeds_X0_isLaid
set_option maxRecDepth 20000 in
theorem ggX6_meetsNeeds_X3_reasonAgainst : GoodIn wsX6_meetsNeeds wsX3_reasonAgainst := goodIn_r _ [14, 15, 16, 17, 18, 19, 34, 35, 36, 37] (by decide +kernel) (by decide +kernel)
set_option maxRecDepth 20000 in
theorem gX6_meetsNeeds_X3_reasonAgainst : GoodIn wsX6_meetsNeeds (wsV RX6 281 RX3 yX3_reasonAgainst wsX3_reasonAgainst) := goodIn_app (goodIn_of _ (by decide +kernel)) ggX6_meetsNeeds_X3_reasonAgainst
theorem dX6_meetsNeeds_0 : decode cX6_meetsNeeds 0 = .ok (.aload_n 0, 1) := by decide +kernel
theorem dX6_meetsNeeds_1 : decode cX6_meetsNeeds 1 = .ok (.getfield 12, 3) := by decide +kernel
theorem dX6_meetsNeeds_4 : decode cX6_meetsNeeds 4 = .ok (.iload_n 1, 1) := by decide +kernel
theorem dX6_meetsNeeds_5 : decode cX6_meetsNeeds 5 = .ok (.bipush 8, 2) := by decide +kernel
theorem dX6_meetsNeeds_7 : decode cX6_meetsNeeds 7 = .ok (.idiv, 1) := by decide +kernel
theorem dX6_meetsNeeds_8 : decode cX6_meetsNeeds 8 = .ok (.invokevirtual 84, 3) := by decide +kernel
theorem dX6_meetsNeeds_11 : decode cX6_meetsNeeds 11 = .ok (.ifCond .ne 26, 3) := by decide +kernel
theorem dX6_meetsNeeds_14 : decode cX6_meetsNeeds 14 = .ok (.aload_n 0, 1) := by decide +kernel
theorem dX6_meetsNeeds_15 : decode cX6_meetsNeeds 15 = .ok (.getfield 33, 3) := by decide +kernel
theorem dX6_meetsNeeds_18 : decode cX6_meetsNeeds 18 = .ok (.aload_n 0, 1) := by decide +kernel
theorem dX6_meetsNeeds_19 : decode cX6_meetsNeeds 19 = .ok (.getfield 12, 3) := by decide +kernel
theorem dX6_meetsNeeds_22 : decode cX6_meetsNeeds 22 = .ok (.getfield 278, 3) := by decide +kernel
theorem dX6_meetsNeeds_25 : decode cX6_meetsNeeds 25 = .ok (.iload_n 1, 1) := by decide +kernel
theorem dX6_meetsNeeds_26 : decode cX6_meetsNeeds 26 = .ok (.iaload, 1) := by decide +kernel
theorem dX6_meetsNeeds_27 : decode cX6_meetsNeeds 27 = .ok (.invokevirtual 281, 3) := by decide +kernel
theorem dX6_meetsNeeds_30 : decode cX6_meetsNeeds 30 = .ok (.ifCond .ne 7, 3) := by decide +kernel
theorem dX6_meetsNeeds_33 : decode cX6_meetsNeeds 33 = .ok (.iconst 1, 1) := by decide +kernel
theorem dX6_meetsNeeds_34 : decode cX6_meetsNeeds 34 = .ok (.goto 4, 3) := by decide +kernel
theorem dX6_meetsNeeds_37 : decode cX6_meetsNeeds 37 = .ok (.iconst 0, 1) := by decide +kernel
theorem dX6_meetsNeeds_38 : decode cX6_meetsNeeds 38 = .ok (.ireturn, 1) := by decide +kernel
set_option maxRecDepth 20000 in
theorem ggX6_colorAt_X0_isEmpty : GoodIn wsX6_colorAt wsX0_isEmpty := goodIn_r _ [6, 7, 24, 25, 26, 27, 28, 29, 30, 31] (by decide +kernel) (by decide +kernel)
set_option maxRecDepth 20000 in
theorem gX6_colorAt_X0_isEmpty : GoodIn wsX6_colorAt (wsV RX6 130 RX0 yX0_isEmpty wsX0_isEmpty) := goodIn_app (goodIn_of _ (by decide +kernel)) ggX6_colorAt_X0_isEmpty
set_option maxRecDepth 20000 in
theorem ggX6_colorAt_X0_lookIn : GoodIn wsX6_colorAt wsX0_lookIn := goodIn_r _ [11, 12, 7, 24, 25, 26, 27, 28, 29, 30, 31] (by decide +kernel) (by decide +kernel)
set_option maxRecDepth 20000 in
theorem gX6_colorAt_X0_lookIn : GoodIn wsX6_colorAt (wsV RX6 293 RX0 yX0_lookIn wsX0_lookIn) := goodIn_app (goodIn_of _ (by decide +kernel)) ggX6_colorAt_X0_lookIn
set_option maxRecDepth 20000 in
theorem ggX6_colorAt_X6_colorsAt : GoodIn wsX6_colorAt wsX6_colorsAt := goodIn_r _ [16, 17] (by decide +kernel) (by decide +kernel)
set_option maxRecDepth 20000 in
theorem gX6_colorAt_X6_colorsAt : GoodIn wsX6_colorAt (va_wsS RX6 296 yX6_colorsAt wsX6_colorsAt) := goodIn_app (goodIn_of _ (by decide +kernel)) ggX6_colorAt_X6_colorsAt
theorem dX6_colorAt_0 : decode cX6_colorAt 0 = .ok (.aload_n 0, 1) := by decide +kernel
theorem dX6_colorAt_1 : decode cX6_colorAt 1 = .ok (.getfield 12, 3) := by decide +kernel
theorem dX6_colorAt_4 : decode cX6_colorAt 4 = .ok (.iload_n 1, 1) := by decide +kernel
theorem dX6_colorAt_5 : decode cX6_colorAt 5 = .ok (.invokevirtual 130, 3) := by decide +kernel
theorem dX6_colorAt_8 : decode cX6_colorAt 8 = .ok (.ifCond .eq 5, 3) := by decide +kernel
theorem dX6_colorAt_11 : decode cX6_colorAt 11 = .ok (.iconst (-1), 1) := by decide +kernel
theorem dX6_colorAt_12 : decode cX6_colorAt 12 = .ok (.ireturn, 1) := by decide +kernel
theorem dX6_colorAt_13 : decode cX6_colorAt 13 = .ok (.aload_n 0, 1) := by decide +kernel
theorem dX6_colorAt_14 : decode cX6_colorAt 14 = .ok (.getfield 12, 3) := by decide +kernel
theorem dX6_colorAt_17 : decode cX6_colorAt 17 = .ok (.iload_n 1, 1) := by decide +kernel
theorem dX6_colorAt_18 : decode cX6_colorAt 18 = .ok (.invokevirtual 293, 3) := by decide +kernel
theorem dX6_colorAt_21 : decode cX6_colorAt 21 = .ok (.iload_n 2, 1) := by decide +kernel
theorem dX6_colorAt_22 : decode cX6_colorAt 22 = .ok (.invokestatic 296, 3) := by decide +kernel
theorem dX6_colorAt_25 : decode cX6_colorAt 25 = .ok (.istore 4, 2) := by decide +kernel
theorem dX6_colorAt_27 : decode cX6_colorAt 27 = .ok (.iload_n 3, 1) := by decide +kernel
theorem dX6_colorAt_28 : decode cX6_colorAt 28 = .ok (.ifCond .eq 11, 3) := by decide +kernel
theorem dX6_colorAt_31 : decode cX6_colorAt 31 = .ok (.iload 4, 2) := by decide +kernel
theorem dX6_colorAt_33 : decode cX6_colorAt 33 = .ok (.bipush 16, 2) := by decide +kernel
theorem dX6_colorAt_35 : decode cX6_colorAt 35 = .ok (.iushr, 1) := by decide +kernel
theorem dX6_colorAt_36 : decode cX6_colorAt 36 = .ok (.goto 8, 3) := by decide +kernel
theorem dX6_colorAt_39 : decode cX6_colorAt 39 = .ok (.iload 4, 2) := by decide +kernel
theorem dX6_colorAt_41 : decode cX6_colorAt 41 = .ok (.bipush 15, 2) := by decide +kernel
theorem dX6_colorAt_43 : decode cX6_colorAt 43 = .ok (.iand, 1) := by decide +kernel
theorem dX6_colorAt_44 : decode cX6_colorAt 44 = .ok (.ireturn, 1) := by decide +kernel
set_option maxRecDepth 20000 in
theorem ggX6_tileProperty_X0_faceOf : GoodIn wsX6_tileProperty wsX0_faceOf := goodIn_r _ [7, 8, 9, 10, 11, 12, 23, 24, 25, 26, 27, 28, 29, 30] (by decide +kernel) (by decide +kernel)
set_option maxRecDepth 20000 in
theorem gX6_tileProperty_X0_faceOf : GoodIn wsX6_tileProperty (wsV RX6 299 RX0 yX0_faceOf wsX0_faceOf) := goodIn_app (goodIn_of _ (by decide +kernel)) ggX6_tileProperty_X0_faceOf
set_option maxRecDepth 20000 in
theorem ggX6_tileProperty_X0_lowestLike : GoodIn wsX6_tileProperty wsX0_lowestLike := goodIn_r _ [16, 8, 23, 24, 25, 26, 27, 28, 29, 30] (by decide +kernel) (by decide +kernel)
set_option maxRecDepth 20000 in
theorem gX6_tileProperty_X0_lowestLike : GoodIn wsX6_tileProperty (wsV RX6 305 RX0 yX0_lowestLike wsX0_lowestLike) := goodIn_app (goodIn_of _ (by decide +kernel)) ggX6_tileProperty_X0_lowestLike
theorem dX6_tileProperty_0 : decode cX6_tileProperty 0 = .ok (.iload_n 2, 1) := by decide +kernel
theorem dX6_tileProperty_1 : decode cX6_tileProperty 1 = .ok (.tableswitch 57 0 2 #[27, 37, 47], 27) := by decide +kernel
theorem dX6_tileProperty_28 : decode cX6_tileProperty 28 = .ok (.aload_n 0, 1) := by decide +kernel
theorem dX6_tileProperty_29 : decode cX6_tileProperty 29 = .ok (.getfield 12, 3) := by decide +kernel
theorem dX6_tileProperty_32 : decode cX6_tileProperty 32 = .ok (.iload_n 1, 1) := by decide +kernel
theorem dX6_tileProperty_33 : decode cX6_tileProperty 33 = .ok (.iconst 0, 1) := by decide +kernel
theorem dX6_tileProperty_34 : decode cX6_tileProperty 34 = .ok (.invokevirtual 299, 3) := by decide +kernel
theorem dX6_tileProperty_37 : decode cX6_tileProperty 37 = .ok (.ireturn, 1) := by decide +kernel
theorem dX6_tileProperty_38 : decode cX6_tileProperty 38 = .ok (.aload_n 0, 1) := by decide +kernel
theorem dX6_tileProperty_39 : decode cX6_tileProperty 39 = .ok (.getfield 12, 3) := by decide +kernel
theorem dX6_tileProperty_42 : decode cX6_tileProperty 42 = .ok (.iload_n 1, 1) := by decide +kernel
theorem dX6_tileProperty_43 : decode cX6_tileProperty 43 = .ok (.iconst 1, 1) := by decide +kernel
theorem dX6_tileProperty_44 : decode cX6_tileProperty 44 = .ok (.invokevirtual 299, 3) := by decide +kernel
theorem dX6_tileProperty_47 : decode cX6_tileProperty 47 = .ok (.ireturn, 1) := by decide +kernel
theorem dX6_tileProperty_48 : decode cX6_tileProperty 48 = .ok (.aload_n 0, 1) := by decide +kernel
theorem dX6_tileProperty_49 : decode cX6_tileProperty 49 = .ok (.getfield 12, 3) := by decide +kernel
theorem dX6_tileProperty_52 : decode cX6_tileProperty 52 = .ok (.getfield 302, 3) := by decide +kernel
theorem dX6_tileProperty_55 : decode cX6_tileProperty 55 = .ok (.iload_n 1, 1) := by decide +kernel
theorem dX6_tileProperty_56 : decode cX6_tileProperty 56 = .ok (.iaload, 1) := by decide +kernel
theorem dX6_tileProperty_57 : decode cX6_tileProperty 57 = .ok (.ireturn, 1) := by decide +kernel
theorem dX6_tileProperty_58 : decode cX6_tileProperty 58 = .ok (.aload_n 0, 1) := by decide +kernel
theorem dX6_tileProperty_59 : decode cX6_tileProperty 59 = .ok (.getfield 12, 3) := by decide +kernel
theorem dX6_tileProperty_62 : decode cX6_tileProperty 62 = .ok (.iload_n 1, 1) := by decide +kernel
theorem dX6_tileProperty_63 : decode cX6_tileProperty 63 = .ok (.invokevirtual 305, 3) := by decide +kernel
theorem dX6_tileProperty_66 : decode cX6_tileProperty 66 = .ok (.ireturn, 1) := by decide +kernel
set_option maxRecDepth 20000 in
theorem ggX6_number_X0_emptyCells : GoodIn wsX6_number wsX0_emptyCells := goodIn_r _ [14, 15, 16, 17, 13, 18, 19, 20, 21, 22, 23, 24, 25, 97, 98, 99, 100, 101, 102, 103, 104] (by decide +kernel) (by decide +kernel)
set_option maxRecDepth 20000 in
theorem gX6_number_X0_emptyCells : GoodIn wsX6_number (wsV RX6 123 RX0 yX0_emptyCells wsX0_emptyCells) := goodIn_app (goodIn_of _ (by decide +kernel)) ggX6_number_X0_emptyCells
set_option maxRecDepth 20000 in
theorem ggX6_number_J6_bitCount_0f7a4 : GoodIn wsX6_number wsJ6_bitCount_0f7a4 := goodIn_r _ [29, 30, 31, 32] (by decide +kernel) (by decide +kernel)
set_option maxRecDepth 20000 in
theorem gX6_number_J6_bitCount_0f7a4 : GoodIn wsX6_number (va_wsS RX6 239 yJ6_bitCount_0f7a4 wsJ6_bitCount_0f7a4) := goodIn_app (goodIn_of _ (by decide +kernel)) ggX6_number_J6_bitCount_0f7a4
set_option maxRecDepth 20000 in
theorem ggX6_number_X0_pairsAlike : GoodIn wsX6_number wsX0_pairsAlike := goodIn_r _ [36, 15, 16, 17, 13, 18, 19, 20, 37, 38, 39, 40, 41, 42, 43, 44, 21, 22, 23, 24, 25, 45, 46, 47, 48, 49, 50, 51, 52, 53, 54, 55, 97, 98, 99, 100, 101, 102, 103, 104] (by decide +kernel) (by decide +kernel)
set_option maxRecDepth 20000 in
theorem gX6_number_X0_pairsAlike : GoodIn wsX6_number (wsV RX6 308 RX0 yX0_pairsAlike wsX0_pairsAlike) := goodIn_app (goodIn_of _ (by decide +kernel)) ggX6_number_X0_pairsAlike
set_option maxRecDepth 20000 in
theorem ggX6_number_X6_misfits : GoodIn wsX6_number wsX6_misfits := goodIn_r _ [59, 1, 60, 61, 16, 17, 13, 18, 19, 20, 62, 22, 23, 24, 25, 63, 64, 65, 66, 67, 68, 69, 70, 71, 72, 73, 74, 75, 76, 77, 42, 43, 44, 15, 78, 79, 46, 47, 48, 49, 54, 51, 55, 50, 52, 53, 80, 81, 82, 83, 84, 85, 86, 87, 88, 89, 90, 91, 92, 93, 94, 95, 96, 97, 98, 99, 100, 101, 102, 103, 104, 108, 109, 110, 111] (by decide +kernel) (by decide +kernel)
set_option maxRecDepth 20000 in
theorem gX6_number_X6_misfits : GoodIn wsX6_number (wsV RX6 312 RX6 yX6_misfits wsX6_misfits) := goodIn_app (goodIn_of _ (by decide +kernel)) ggX6_number_X6_misfits
theorem dX6_number_0 : decode cX6_number 0 = .ok (.iload_n 1, 1) := by decide +kernel
theorem dX6_number_1 : decode cX6_number 1 = .ok (.tableswitch 128 0 8 #[51, 59, 67, 75, 83, 94, 102, 112, 123], 51) := by decide +kernel
theorem dX6_number_52 : decode cX6_number 52 = .ok (.aload_n 0, 1) := by decide +kernel
theorem dX6_number_53 : decode cX6_number 53 = .ok (.getfield 12, 3) := by decide +kernel
theorem dX6_number_56 : decode cX6_number 56 = .ok (.getfield 98, 3) := by decide +kernel
theorem dX6_number_59 : decode cX6_number 59 = .ok (.ireturn, 1) := by decide +kernel
theorem dX6_number_60 : decode cX6_number 60 = .ok (.aload_n 0, 1) := by decide +kernel
theorem dX6_number_61 : decode cX6_number 61 = .ok (.getfield 12, 3) := by decide +kernel
theorem dX6_number_64 : decode cX6_number 64 = .ok (.getfield 101, 3) := by decide +kernel
theorem dX6_number_67 : decode cX6_number 67 = .ok (.ireturn, 1) := by decide +kernel
theorem dX6_number_68 : decode cX6_number 68 = .ok (.aload_n 0, 1) := by decide +kernel
theorem dX6_number_69 : decode cX6_number 69 = .ok (.getfield 12, 3) := by decide +kernel
theorem dX6_number_72 : decode cX6_number 72 = .ok (.getfield 72, 3) := by decide +kernel
theorem dX6_number_75 : decode cX6_number 75 = .ok (.ireturn, 1) := by decide +kernel
theorem dX6_number_76 : decode cX6_number 76 = .ok (.aload_n 0, 1) := by decide +kernel
theorem dX6_number_77 : decode cX6_number 77 = .ok (.getfield 12, 3) := by decide +kernel
theorem dX6_number_80 : decode cX6_number 80 = .ok (.invokevirtual 123, 3) := by decide +kernel
theorem dX6_number_83 : decode cX6_number 83 = .ok (.ireturn, 1) := by decide +kernel
theorem dX6_number_84 : decode cX6_number 84 = .ok (.aload_n 0, 1) := by decide +kernel
theorem dX6_number_85 : decode cX6_number 85 = .ok (.getfield 12, 3) := by decide +kernel
theorem dX6_number_88 : decode cX6_number 88 = .ok (.getfield 147, 3) := by decide +kernel
theorem dX6_number_91 : decode cX6_number 91 = .ok (.invokestatic 239, 3) := by decide +kernel
theorem dX6_number_94 : decode cX6_number 94 = .ok (.ireturn, 1) := by decide +kernel
theorem dX6_number_95 : decode cX6_number 95 = .ok (.aload_n 0, 1) := by decide +kernel
theorem dX6_number_96 : decode cX6_number 96 = .ok (.getfield 12, 3) := by decide +kernel
theorem dX6_number_99 : decode cX6_number 99 = .ok (.getfield 92, 3) := by decide +kernel
theorem dX6_number_102 : decode cX6_number 102 = .ok (.ireturn, 1) := by decide +kernel
theorem dX6_number_103 : decode cX6_number 103 = .ok (.aload_n 0, 1) := by decide +kernel
theorem dX6_number_104 : decode cX6_number 104 = .ok (.getfield 12, 3) := by decide +kernel
theorem dX6_number_107 : decode cX6_number 107 = .ok (.bipush 15, 2) := by decide +kernel
theorem dX6_number_109 : decode cX6_number 109 = .ok (.invokevirtual 308, 3) := by decide +kernel
theorem dX6_number_112 : decode cX6_number 112 = .ok (.ireturn, 1) := by decide +kernel
theorem dX6_number_113 : decode cX6_number 113 = .ok (.aload_n 0, 1) := by decide +kernel
theorem dX6_number_114 : decode cX6_number 114 = .ok (.getfield 12, 3) := by decide +kernel
theorem dX6_number_117 : decode cX6_number 117 = .ok (.ldc_w 311, 3) := by decide +kernel
theorem dX6_number_120 : decode cX6_number 120 = .ok (.invokevirtual 308, 3) := by decide +kernel
theorem dX6_number_123 : decode cX6_number 123 = .ok (.ireturn, 1) := by decide +kernel
theorem dX6_number_124 : decode cX6_number 124 = .ok (.aload_n 0, 1) := by decide +kernel
theorem dX6_number_125 : decode cX6_number 125 = .ok (.invokevirtual 312, 3) := by decide +kernel
theorem dX6_number_128 : decode cX6_number 128 = .ok (.ireturn, 1) := by decide +kernel
theorem dX6_number_129 : decode cX6_number 129 = .ok (.aload_n 0, 1) := by decide +kernel
theorem dX6_number_130 : decode cX6_number 130 = .ok (.getfield 19, 3) := by decide +kernel
theorem dX6_number_133 : decode cX6_number 133 = .ok (.getfield 199, 3) := by decide +kernel
theorem dX6_number_136 : decode cX6_number 136 = .ok (.ireturn, 1) := by decide +kernel
set_option maxRecDepth 20000 in
theorem ggX6_misfits_X0_cells : GoodIn wsX6_misfits wsX0_cells := goodIn_r _ [7, 8, 9, 63, 64, 65, 66, 67, 68, 69, 70] (by decide +kernel) (by decide +kernel)
set_option maxRecDepth 20000 in
theorem gX6_misfits_X0_cells : GoodIn wsX6_misfits (wsV RX6 66 RX0 yX0_cells wsX0_cells) := goodIn_app (goodIn_of _ (by decide +kernel)) ggX6_misfits_X0_cells
set_option maxRecDepth 20000 in
theorem ggX6_misfits_X0_isEmpty : GoodIn wsX6_misfits wsX0_isEmpty := goodIn_r _ [13, 14, 63, 64, 65, 66, 67, 68, 69, 70] (by decide +kernel) (by decide +kernel)
set_option maxRecDepth 20000 in
theorem gX6_misfits_X0_isEmpty : GoodIn wsX6_misfits (wsV RX6 130 RX0 yX0_isEmpty wsX0_isEmpty) := goodIn_app (goodIn_of _ (by decide +kernel)) ggX6_misfits_X0_isEmpty
set_option maxRecDepth 20000 in
theorem ggX6_misfits_X3_read : GoodIn wsX6_misfits wsX3_read := goodIn_r _ [19, 20, 21, 22, 23, 24, 25, 26, 18, 27, 28, 29, 30, 31, 6, 32, 9, 33, 4, 5, 7, 8, 34, 11, 12, 13, 14, 35, 36, 37, 38, 39, 40, 41, 42, 43, 44, 45, 46, 47, 48, 49, 50, 71, 72, 73, 74, 63, 64, 65, 66, 67, 68, 69, 70] (by decide +kernel) (by decide +kernel)
set_option maxRecDepth 20000 in
theorem gX6_misfits_X3_read : GoodIn wsX6_misfits (wsV RX6 275 RX3 yX3_read wsX3_read) := goodIn_app (goodIn_of _ (by decide +kernel)) ggX6_misfits_X3_read
set_option maxRecDepth 20000 in
theorem ggX6_misfits_X0_lookIn : GoodIn wsX6_misfits wsX0_lookIn := goodIn_r _ [38, 39, 14, 63, 64, 65, 66, 67, 68, 69, 70] (by decide +kernel) (by decide +kernel)
set_option maxRecDepth 20000 in
theorem gX6_misfits_X0_lookIn : GoodIn wsX6_misfits (wsV RX6 293 RX0 yX0_lookIn wsX0_lookIn) := goodIn_app (goodIn_of _ (by decide +kernel)) ggX6_misfits_X0_lookIn
set_option maxRecDepth 20000 in
theorem ggX6_misfits_X3_reasonAgainst : GoodIn wsX6_misfits wsX3_reasonAgainst := goodIn_r _ [55, 20, 22, 21, 56, 23, 71, 72, 73, 74] (by decide +kernel) (by decide +kernel)
set_option maxRecDepth 20000 in
theorem gX6_misfits_X3_reasonAgainst : GoodIn wsX6_misfits (wsV RX6 281 RX3 yX3_reasonAgainst wsX3_reasonAgainst) := goodIn_app (goodIn_of _ (by decide +kernel)) ggX6_misfits_X3_reasonAgainst
theorem dX6_misfits_0 : decode cX6_misfits 0 = .ok (.iconst 0, 1) := by decide +kernel
theorem dX6_misfits_1 : decode cX6_misfits 1 = .ok (.istore_n 1, 1) := by decide +kernel
theorem dX6_misfits_2 : decode cX6_misfits 2 = .ok (.iconst 0, 1) := by decide +kernel
theorem dX6_misfits_3 : decode cX6_misfits 3 = .ok (.istore_n 2, 1) := by decide +kernel
theorem dX6_misfits_4 : decode cX6_misfits 4 = .ok (.iload_n 2, 1) := by decide +kernel
theorem dX6_misfits_5 : decode cX6_misfits 5 = .ok (.aload_n 0, 1) := by decide +kernel
theorem dX6_misfits_6 : decode cX6_misfits 6 = .ok (.getfield 12, 3) := by decide +kernel
theorem dX6_misfits_9 : decode cX6_misfits 9 = .ok (.invokevirtual 66, 3) := by decide +kernel
theorem dX6_misfits_12 : decode cX6_misfits 12 = .ok (.if_icmp .ge 53, 3) := by decide +kernel
theorem dX6_misfits_15 : decode cX6_misfits 15 = .ok (.aload_n 0, 1) := by decide +kernel
theorem dX6_misfits_16 : decode cX6_misfits 16 = .ok (.getfield 12, 3) := by decide +kernel
theorem dX6_misfits_19 : decode cX6_misfits 19 = .ok (.iload_n 2, 1) := by decide +kernel
theorem dX6_misfits_20 : decode cX6_misfits 20 = .ok (.invokevirtual 130, 3) := by decide +kernel
theorem dX6_misfits_23 : decode cX6_misfits 23 = .ok (.ifCond .ne 36, 3) := by decide +kernel
theorem dX6_misfits_26 : decode cX6_misfits 26 = .ok (.aload_n 0, 1) := by decide +kernel
theorem dX6_misfits_27 : decode cX6_misfits 27 = .ok (.getfield 33, 3) := by decide +kernel
theorem dX6_misfits_30 : decode cX6_misfits 30 = .ok (.aload_n 0, 1) := by decide +kernel
theorem dX6_misfits_31 : decode cX6_misfits 31 = .ok (.getfield 12, 3) := by decide +kernel
theorem dX6_misfits_34 : decode cX6_misfits 34 = .ok (.iload_n 2, 1) := by decide +kernel
theorem dX6_misfits_35 : decode cX6_misfits 35 = .ok (.invokevirtual 275, 3) := by decide +kernel
theorem dX6_misfits_38 : decode cX6_misfits 38 = .ok (.aload_n 0, 1) := by decide +kernel
theorem dX6_misfits_39 : decode cX6_misfits 39 = .ok (.getfield 33, 3) := by decide +kernel
theorem dX6_misfits_42 : decode cX6_misfits 42 = .ok (.aload_n 0, 1) := by decide +kernel
theorem dX6_misfits_43 : decode cX6_misfits 43 = .ok (.getfield 12, 3) := by decide +kernel
theorem dX6_misfits_46 : decode cX6_misfits 46 = .ok (.iload_n 2, 1) := by decide +kernel
theorem dX6_misfits_47 : decode cX6_misfits 47 = .ok (.invokevirtual 293, 3) := by decide +kernel
theorem dX6_misfits_50 : decode cX6_misfits 50 = .ok (.invokevirtual 281, 3) := by decide +kernel
theorem dX6_misfits_53 : decode cX6_misfits 53 = .ok (.ifCond .eq 6, 3) := by decide +kernel
theorem dX6_misfits_56 : decode cX6_misfits 56 = .ok (.iinc 1 1, 3) := by decide +kernel
theorem dX6_misfits_59 : decode cX6_misfits 59 = .ok (.iinc 2 1, 3) := by decide +kernel
theorem dX6_misfits_62 : decode cX6_misfits 62 = .ok (.goto (-58), 3) := by decide +kernel
theorem dX6_misfits_65 : decode cX6_misfits 65 = .ok (.iload_n 1, 1) := by decide +kernel
theorem dX6_misfits_66 : decode cX6_misfits 66 = .ok (.ireturn, 1) := by decide +kernel
set_option maxRecDepth 20000 in
theorem ggX6_bestStep_X0_cells : GoodIn wsX6_bestStep wsX0_cells := goodIn_r _ [6, 7, 8, 81, 82, 83, 84, 85, 86, 87, 88] (by decide +kernel) (by decide +kernel)
set_option maxRecDepth 20000 in
theorem gX6_bestStep_X0_cells : GoodIn wsX6_bestStep (wsV RX6 66 RX0 yX0_cells wsX0_cells) := goodIn_app (goodIn_of _ (by decide +kernel)) ggX6_bestStep_X0_cells
set_option maxRecDepth 20000 in
theorem ggX6_bestStep_X6_possibleCount : GoodIn wsX6_bestStep wsX6_possibleCount := goodIn_r _ [13, 1, 14, 15, 16, 17, 18, 5, 19, 20, 21, 22, 23, 24, 25, 26, 27, 28, 29, 30, 31, 32, 33, 34, 35, 36, 37, 38, 8, 39, 3, 4, 6, 7, 40, 41, 42, 43, 44, 45, 46, 12, 47, 48, 49, 50, 51, 52, 53, 54, 55, 56, 57, 58, 59, 60, 61, 62, 63, 64, 65, 66, 67, 68, 69, 70, 75, 76, 77, 78, 79, 80, 81, 82, 83, 84, 85, 86, 87, 88, 89, 90, 91, 92] (by decide +kernel) (by decide +kernel)
set_option maxRecDepth 20000 in
theorem gX6_bestStep_X6_possibleCount : GoodIn wsX6_bestStep (wsV RX6 284 RX6 yX6_possibleCount wsX6_possibleCount) := goodIn_app (goodIn_of _ (by decide +kernel)) ggX6_bestStep_X6_possibleCount
set_option maxRecDepth 20000 in
theorem ggX6_bestStep_X6_firstPossible : GoodIn wsX6_bestStep wsX6_firstPossible := goodIn_r _ [74, 1, 14, 15, 16, 17, 18, 5, 19, 20, 21, 22, 23, 24, 25, 26, 27, 28, 29, 30, 31, 32, 33, 34, 35, 36, 37, 38, 8, 39, 3, 4, 6, 7, 40, 41, 42, 43, 44, 45, 46, 12, 47, 48, 49, 50, 51, 52, 53, 54, 55, 56, 57, 58, 59, 60, 61, 62, 63, 64, 65, 66, 67, 68, 69, 70, 75, 76, 77, 78, 79, 80, 81, 82, 83, 84, 85, 86, 87, 88, 89, 90, 91, 92] (by decide +kernel) (by decide +kernel)
set_option maxRecDepth 20000 in
theorem gX6_bestStep_X6_firstPossible : GoodIn wsX6_bestStep (wsV RX6 287 RX6 yX6_firstPossible wsX6_firstPossible) := goodIn_app (goodIn_of _ (by decide +kernel)) ggX6_bestStep_X6_firstPossible
theorem dX6_bestStep_0 : decode cX6_bestStep 0 = .ok (.iconst (-1), 1) := by decide +kernel
theorem dX6_bestStep_1 : decode cX6_bestStep 1 = .ok (.istore_n 1, 1) := by decide +kernel
theorem dX6_bestStep_2 : decode cX6_bestStep 2 = .ok (.iconst 0, 1) := by decide +kernel
theorem dX6_bestStep_3 : decode cX6_bestStep 3 = .ok (.istore_n 2, 1) := by decide +kernel
theorem dX6_bestStep_4 : decode cX6_bestStep 4 = .ok (.iconst 0, 1) := by decide +kernel
theorem dX6_bestStep_5 : decode cX6_bestStep 5 = .ok (.istore_n 3, 1) := by decide +kernel
theorem dX6_bestStep_6 : decode cX6_bestStep 6 = .ok (.iload_n 3, 1) := by decide +kernel
theorem dX6_bestStep_7 : decode cX6_bestStep 7 = .ok (.aload_n 0, 1) := by decide +kernel
theorem dX6_bestStep_8 : decode cX6_bestStep 8 = .ok (.getfield 12, 3) := by decide +kernel
theorem dX6_bestStep_11 : decode cX6_bestStep 11 = .ok (.invokevirtual 66, 3) := by decide +kernel
theorem dX6_bestStep_14 : decode cX6_bestStep 14 = .ok (.if_icmp .ge 37, 3) := by decide +kernel
theorem dX6_bestStep_17 : decode cX6_bestStep 17 = .ok (.aload_n 0, 1) := by decide +kernel
theorem dX6_bestStep_18 : decode cX6_bestStep 18 = .ok (.iload_n 3, 1) := by decide +kernel
theorem dX6_bestStep_19 : decode cX6_bestStep 19 = .ok (.invokevirtual 284, 3) := by decide +kernel
theorem dX6_bestStep_22 : decode cX6_bestStep 22 = .ok (.istore 4, 2) := by decide +kernel
theorem dX6_bestStep_24 : decode cX6_bestStep 24 = .ok (.iload 4, 2) := by decide +kernel
theorem dX6_bestStep_26 : decode cX6_bestStep 26 = .ok (.ifCond .le 19, 3) := by decide +kernel
theorem dX6_bestStep_29 : decode cX6_bestStep 29 = .ok (.iload_n 1, 1) := by decide +kernel
theorem dX6_bestStep_30 : decode cX6_bestStep 30 = .ok (.iconst (-1), 1) := by decide +kernel
theorem dX6_bestStep_31 : decode cX6_bestStep 31 = .ok (.if_icmp .eq 9, 3) := by decide +kernel
theorem dX6_bestStep_34 : decode cX6_bestStep 34 = .ok (.iload 4, 2) := by decide +kernel
theorem dX6_bestStep_36 : decode cX6_bestStep 36 = .ok (.iload_n 2, 1) := by decide +kernel
theorem dX6_bestStep_37 : decode cX6_bestStep 37 = .ok (.if_icmp .ge 8, 3) := by decide +kernel
theorem dX6_bestStep_40 : decode cX6_bestStep 40 = .ok (.iload_n 3, 1) := by decide +kernel
theorem dX6_bestStep_41 : decode cX6_bestStep 41 = .ok (.istore_n 1, 1) := by decide +kernel
theorem dX6_bestStep_42 : decode cX6_bestStep 42 = .ok (.iload 4, 2) := by decide +kernel
theorem dX6_bestStep_44 : decode cX6_bestStep 44 = .ok (.istore_n 2, 1) := by decide +kernel
theorem dX6_bestStep_45 : decode cX6_bestStep 45 = .ok (.iinc 3 1, 3) := by decide +kernel
theorem dX6_bestStep_48 : decode cX6_bestStep 48 = .ok (.goto (-42), 3) := by decide +kernel
theorem dX6_bestStep_51 : decode cX6_bestStep 51 = .ok (.iload_n 1, 1) := by decide +kernel
theorem dX6_bestStep_52 : decode cX6_bestStep 52 = .ok (.iconst (-1), 1) := by decide +kernel
theorem dX6_bestStep_53 : decode cX6_bestStep 53 = .ok (.if_icmp .ne 7, 3) := by decide +kernel
theorem dX6_bestStep_56 : decode cX6_bestStep 56 = .ok (.iconst (-1), 1) := by decide +kernel
theorem dX6_bestStep_57 : decode cX6_bestStep 57 = .ok (.goto 13, 3) := by decide +kernel
theorem dX6_bestStep_60 : decode cX6_bestStep 60 = .ok (.bipush 100, 2) := by decide +kernel
theorem dX6_bestStep_62 : decode cX6_bestStep 62 = .ok (.iload_n 1, 1) := by decide +kernel
theorem dX6_bestStep_63 : decode cX6_bestStep 63 = .ok (.imul, 1) := by decide +kernel
theorem dX6_bestStep_64 : decode cX6_bestStep 64 = .ok (.aload_n 0, 1) := by decide +kernel
theorem dX6_bestStep_65 : decode cX6_bestStep 65 = .ok (.iload_n 1, 1) := by decide +kernel
theorem dX6_bestStep_66 : decode cX6_bestStep 66 = .ok (.invokevirtual 287, 3) := by decide +kernel
theorem dX6_bestStep_69 : decode cX6_bestStep 69 = .ok (.iadd, 1) := by decide +kernel
theorem dX6_bestStep_70 : decode cX6_bestStep 70 = .ok (.ireturn, 1) := by decide +kernel
set_option maxRecDepth 20000 in
theorem ggX6_fittingPart_X0_pairsAlike : GoodIn wsX6_fittingPart wsX0_pairsAlike := goodIn_r _ [7, 8, 9, 10, 6, 11, 12, 13, 14, 15, 16, 17, 18, 19, 20, 21, 22, 23, 24, 25, 26, 27, 28, 29, 30, 31, 32, 33, 34, 35, 36, 37, 44, 45, 46, 47, 48, 49, 50, 51] (by decide +kernel) (by decide +kernel)
set_option maxRecDepth 20000 in
theorem gX6_fittingPart_X0_pairsAlike : GoodIn wsX6_fittingPart (wsV RX6 308 RX0 yX0_pairsAlike wsX0_pairsAlike) := goodIn_app (goodIn_of _ (by decide +kernel)) ggX6_fittingPart_X0_pairsAlike
theorem dX6_fittingPart_0 : decode cX6_fittingPart 0 = .ok (.aload_n 0, 1) := by decide +kernel
theorem dX6_fittingPart_1 : decode cX6_fittingPart 1 = .ok (.getfield 12, 3) := by decide +kernel
theorem dX6_fittingPart_4 : decode cX6_fittingPart 4 = .ok (.iconst 0, 1) := by decide +kernel
theorem dX6_fittingPart_5 : decode cX6_fittingPart 5 = .ok (.invokevirtual 308, 3) := by decide +kernel
theorem dX6_fittingPart_8 : decode cX6_fittingPart 8 = .ok (.istore_n 1, 1) := by decide +kernel
theorem dX6_fittingPart_9 : decode cX6_fittingPart 9 = .ok (.iload_n 1, 1) := by decide +kernel
theorem dX6_fittingPart_10 : decode cX6_fittingPart 10 = .ok (.iconst 1, 1) := by decide +kernel
theorem dX6_fittingPart_11 : decode cX6_fittingPart 11 = .ok (.if_icmp .ge 5, 3) := by decide +kernel
theorem dX6_fittingPart_14 : decode cX6_fittingPart 14 = .ok (.dconst 1, 1) := by decide +kernel
theorem dX6_fittingPart_15 : decode cX6_fittingPart 15 = .ok (.dreturn, 1) := by decide +kernel
theorem dX6_fittingPart_16 : decode cX6_fittingPart 16 = .ok (.aload_n 0, 1) := by decide +kernel
theorem dX6_fittingPart_17 : decode cX6_fittingPart 17 = .ok (.getfield 12, 3) := by decide +kernel
theorem dX6_fittingPart_20 : decode cX6_fittingPart 20 = .ok (.bipush 15, 2) := by decide +kernel
theorem dX6_fittingPart_22 : decode cX6_fittingPart 22 = .ok (.invokevirtual 308, 3) := by decide +kernel
theorem dX6_fittingPart_25 : decode cX6_fittingPart 25 = .ok (.aload_n 0, 1) := by decide +kernel
theorem dX6_fittingPart_26 : decode cX6_fittingPart 26 = .ok (.getfield 12, 3) := by decide +kernel
theorem dX6_fittingPart_29 : decode cX6_fittingPart 29 = .ok (.ldc_w 311, 3) := by decide +kernel
theorem dX6_fittingPart_32 : decode cX6_fittingPart 32 = .ok (.invokevirtual 308, 3) := by decide +kernel
theorem dX6_fittingPart_35 : decode cX6_fittingPart 35 = .ok (.iadd, 1) := by decide +kernel
theorem dX6_fittingPart_36 : decode cX6_fittingPart 36 = .ok (.istore_n 2, 1) := by decide +kernel
theorem dX6_fittingPart_37 : decode cX6_fittingPart 37 = .ok (.iload_n 2, 1) := by decide +kernel
theorem dX6_fittingPart_38 : decode cX6_fittingPart 38 = .ok (.i2d, 1) := by decide +kernel
theorem dX6_fittingPart_39 : decode cX6_fittingPart 39 = .ok (.iconst 2, 1) := by decide +kernel
theorem dX6_fittingPart_40 : decode cX6_fittingPart 40 = .ok (.iload_n 1, 1) := by decide +kernel
theorem dX6_fittingPart_41 : decode cX6_fittingPart 41 = .ok (.imul, 1) := by decide +kernel
theorem dX6_fittingPart_42 : decode cX6_fittingPart 42 = .ok (.i2d, 1) := by decide +kernel
theorem dX6_fittingPart_43 : decode cX6_fittingPart 43 = .ok (.ddiv, 1) := by decide +kernel
theorem dX6_fittingPart_44 : decode cX6_fittingPart 44 = .ok (.dreturn, 1) := by decide +kernel
theorem dX6_colorsAt_0 : decode cX6_colorsAt 0 = .ok (.iload_n 0, 1) := by decide +kernel
theorem dX6_colorsAt_1 : decode cX6_colorsAt 1 = .ok (.iconst 4, 1) := by decide +kernel
theorem dX6_colorsAt_2 : decode cX6_colorsAt 2 = .ok (.iload_n 1, 1) := by decide +kernel
theorem dX6_colorsAt_3 : decode cX6_colorsAt 3 = .ok (.imul, 1) := by decide +kernel
theorem dX6_colorsAt_4 : decode cX6_colorsAt 4 = .ok (.iushr, 1) := by decide +kernel
theorem dX6_colorsAt_5 : decode cX6_colorsAt 5 = .ok (.ldc_w 321, 3) := by decide +kernel
theorem dX6_colorsAt_8 : decode cX6_colorsAt 8 = .ok (.iand, 1) := by decide +kernel
theorem dX6_colorsAt_9 : decode cX6_colorsAt 9 = .ok (.ireturn, 1) := by decide +kernel
theorem dX6_opposite_0 : decode cX6_opposite 0 = .ok (.iload_n 0, 1) := by decide +kernel
theorem dX6_opposite_1 : decode cX6_opposite 1 = .ok (.iconst 2, 1) := by decide +kernel
theorem dX6_opposite_2 : decode cX6_opposite 2 = .ok (.iadd, 1) := by decide +kernel
theorem dX6_opposite_3 : decode cX6_opposite 3 = .ok (.iconst 4, 1) := by decide +kernel
theorem dX6_opposite_4 : decode cX6_opposite 4 = .ok (.irem, 1) := by decide +kernel
theorem dX6_opposite_5 : decode cX6_opposite 5 = .ok (.ireturn, 1) := by decide +kernel
theorem dX6_seenFromBehind_0 : decode cX6_seenFromBehind 0 = .ok (.iconst 4, 1) := by decide +kernel
theorem dX6_seenFromBehind_1 : decode cX6_seenFromBehind 1 = .ok (.iload_n 0, 1) := by decide +kernel
theorem dX6_seenFromBehind_2 : decode cX6_seenFromBehind 2 = .ok (.isub, 1) := by decide +kernel
theorem dX6_seenFromBehind_3 : decode cX6_seenFromBehind 3 = .ok (.iconst 4, 1) := by decide +kernel
theorem dX6_seenFromBehind_4 : decode cX6_seenFromBehind 4 = .ok (.irem, 1) := by decide +kernel
theorem dX6_seenFromBehind_5 : decode cX6_seenFromBehind 5 = .ok (.ireturn, 1) := by decide +kernel
set_option maxRecDepth 20000 in
theorem ggX6_turned_X6_colorsAt : GoodIn wsX6_turned wsX6_colorsAt := goodIn_r _ [4, 5] (by decide +kernel) (by decide +kernel)
set_option maxRecDepth 20000 in
theorem gX6_turned_X6_colorsAt : GoodIn wsX6_turned (va_wsS RX6 296 yX6_colorsAt wsX6_colorsAt) := goodIn_app (goodIn_of _ (by decide +kernel)) ggX6_turned_X6_colorsAt
theorem dX6_turned_0 : decode cX6_turned 0 = .ok (.iconst 0, 1) := by decide +kernel
theorem dX6_turned_1 : decode cX6_turned 1 = .ok (.istore_n 1, 1) := by decide +kernel
theorem dX6_turned_2 : decode cX6_turned 2 = .ok (.iconst 0, 1) := by decide +kernel
theorem dX6_turned_3 : decode cX6_turned 3 = .ok (.istore_n 2, 1) := by decide +kernel
theorem dX6_turned_4 : decode cX6_turned 4 = .ok (.iload_n 2, 1) := by decide +kernel
theorem dX6_turned_5 : decode cX6_turned 5 = .ok (.iconst 4, 1) := by decide +kernel
theorem dX6_turned_6 : decode cX6_turned 6 = .ok (.if_icmp .ge 25, 3) := by decide +kernel
theorem dX6_turned_9 : decode cX6_turned 9 = .ok (.iload_n 1, 1) := by decide +kernel
theorem dX6_turned_10 : decode cX6_turned 10 = .ok (.iload_n 0, 1) := by decide +kernel
theorem dX6_turned_11 : decode cX6_turned 11 = .ok (.iload_n 2, 1) := by decide +kernel
theorem dX6_turned_12 : decode cX6_turned 12 = .ok (.invokestatic 296, 3) := by decide +kernel
theorem dX6_turned_15 : decode cX6_turned 15 = .ok (.iconst 4, 1) := by decide +kernel
theorem dX6_turned_16 : decode cX6_turned 16 = .ok (.iload_n 2, 1) := by decide +kernel
theorem dX6_turned_17 : decode cX6_turned 17 = .ok (.iconst 1, 1) := by decide +kernel
theorem dX6_turned_18 : decode cX6_turned 18 = .ok (.iadd, 1) := by decide +kernel
theorem dX6_turned_19 : decode cX6_turned 19 = .ok (.iconst 4, 1) := by decide +kernel
theorem dX6_turned_20 : decode cX6_turned 20 = .ok (.irem, 1) := by decide +kernel
theorem dX6_turned_21 : decode cX6_turned 21 = .ok (.imul, 1) := by decide +kernel
theorem dX6_turned_22 : decode cX6_turned 22 = .ok (.ishl, 1) := by decide +kernel
theorem dX6_turned_23 : decode cX6_turned 23 = .ok (.ior, 1) := by decide +kernel
theorem dX6_turned_24 : decode cX6_turned 24 = .ok (.istore_n 1, 1) := by decide +kernel
theorem dX6_turned_25 : decode cX6_turned 25 = .ok (.iinc 2 1, 3) := by decide +kernel
theorem dX6_turned_28 : decode cX6_turned 28 = .ok (.goto (-24), 3) := by decide +kernel
theorem dX6_turned_31 : decode cX6_turned 31 = .ok (.iload_n 1, 1) := by decide +kernel
theorem dX6_turned_32 : decode cX6_turned 32 = .ok (.ireturn, 1) := by decide +kernel
set_option maxRecDepth 20000 in
theorem ggX6_turnedOver_X6_colorsAt : GoodIn wsX6_turnedOver wsX6_colorsAt := goodIn_r _ [4, 5] (by decide +kernel) (by decide +kernel)
set_option maxRecDepth 20000 in
theorem gX6_turnedOver_X6_colorsAt : GoodIn wsX6_turnedOver (va_wsS RX6 296 yX6_colorsAt wsX6_colorsAt) := goodIn_app (goodIn_of _ (by decide +kernel)) ggX6_turnedOver_X6_colorsAt
set_option maxRecDepth 20000 in
theorem ggX6_turnedOver_X6_seenFromBehind : GoodIn wsX6_turnedOver wsX6_seenFromBehind := goodIn_r _ [8] (by decide +kernel) (by decide +kernel)
set_option maxRecDepth 20000 in
theorem gX6_turnedOver_X6_seenFromBehind : GoodIn wsX6_turnedOver (va_wsS RX6 322 yX6_seenFromBehind wsX6_seenFromBehind) := goodIn_app (goodIn_of _ (by decide +kernel)) ggX6_turnedOver_X6_seenFromBehind
theorem dX6_turnedOver_0 : decode cX6_turnedOver 0 = .ok (.iconst 0, 1) := by decide +kernel
theorem dX6_turnedOver_1 : decode cX6_turnedOver 1 = .ok (.istore_n 1, 1) := by decide +kernel
theorem dX6_turnedOver_2 : decode cX6_turnedOver 2 = .ok (.iconst 0, 1) := by decide +kernel
theorem dX6_turnedOver_3 : decode cX6_turnedOver 3 = .ok (.istore_n 2, 1) := by decide +kernel
theorem dX6_turnedOver_4 : decode cX6_turnedOver 4 = .ok (.iload_n 2, 1) := by decide +kernel
theorem dX6_turnedOver_5 : decode cX6_turnedOver 5 = .ok (.iconst 4, 1) := by decide +kernel
theorem dX6_turnedOver_6 : decode cX6_turnedOver 6 = .ok (.if_icmp .ge 41, 3) := by decide +kernel
theorem dX6_turnedOver_9 : decode cX6_turnedOver 9 = .ok (.iload_n 0, 1) := by decide +kernel
theorem dX6_turnedOver_10 : decode cX6_turnedOver 10 = .ok (.iload_n 2, 1) := by decide +kernel
theorem dX6_turnedOver_11 : decode cX6_turnedOver 11 = .ok (.invokestatic 296, 3) := by decide +kernel
theorem dX6_turnedOver_14 : decode cX6_turnedOver 14 = .ok (.istore_n 3, 1) := by decide +kernel
theorem dX6_turnedOver_15 : decode cX6_turnedOver 15 = .ok (.iload_n 3, 1) := by decide +kernel
theorem dX6_turnedOver_16 : decode cX6_turnedOver 16 = .ok (.bipush 16, 2) := by decide +kernel
theorem dX6_turnedOver_18 : decode cX6_turnedOver 18 = .ok (.iushr, 1) := by decide +kernel
theorem dX6_turnedOver_19 : decode cX6_turnedOver 19 = .ok (.iload_n 3, 1) := by decide +kernel
theorem dX6_turnedOver_20 : decode cX6_turnedOver 20 = .ok (.bipush 15, 2) := by decide +kernel
theorem dX6_turnedOver_22 : decode cX6_turnedOver 22 = .ok (.iand, 1) := by decide +kernel
theorem dX6_turnedOver_23 : decode cX6_turnedOver 23 = .ok (.bipush 16, 2) := by decide +kernel
theorem dX6_turnedOver_25 : decode cX6_turnedOver 25 = .ok (.ishl, 1) := by decide +kernel
theorem dX6_turnedOver_26 : decode cX6_turnedOver 26 = .ok (.ior, 1) := by decide +kernel
theorem dX6_turnedOver_27 : decode cX6_turnedOver 27 = .ok (.istore 4, 2) := by decide +kernel
theorem dX6_turnedOver_29 : decode cX6_turnedOver 29 = .ok (.iload_n 1, 1) := by decide +kernel
theorem dX6_turnedOver_30 : decode cX6_turnedOver 30 = .ok (.iload 4, 2) := by decide +kernel
theorem dX6_turnedOver_32 : decode cX6_turnedOver 32 = .ok (.iconst 4, 1) := by decide +kernel
theorem dX6_turnedOver_33 : decode cX6_turnedOver 33 = .ok (.iload_n 2, 1) := by decide +kernel
theorem dX6_turnedOver_34 : decode cX6_turnedOver 34 = .ok (.invokestatic 322, 3) := by decide +kernel
theorem dX6_turnedOver_37 : decode cX6_turnedOver 37 = .ok (.imul, 1) := by decide +kernel
theorem dX6_turnedOver_38 : decode cX6_turnedOver 38 = .ok (.ishl, 1) := by decide +kernel
theorem dX6_turnedOver_39 : decode cX6_turnedOver 39 = .ok (.ior, 1) := by decide +kernel
theorem dX6_turnedOver_40 : decode cX6_turnedOver 40 = .ok (.istore_n 1, 1) := by decide +kernel
theorem dX6_turnedOver_41 : decode cX6_turnedOver 41 = .ok (.iinc 2 1, 3) := by decide +kernel
theorem dX6_turnedOver_44 : decode cX6_turnedOver 44 = .ok (.goto (-40), 3) := by decide +kernel
theorem dX6_turnedOver_47 : decode cX6_turnedOver 47 = .ok (.iload_n 1, 1) := by decide +kernel
theorem dX6_turnedOver_48 : decode cX6_turnedOver 48 = .ok (.ireturn, 1) := by decide +kernel
set_option maxRecDepth 20000 in
theorem ggX6_lookOfFaces_X6_digit : GoodIn wsX6_lookOfFaces wsX6_digit := goodIn_r _ [4] (by decide +kernel) (by decide +kernel)
set_option maxRecDepth 20000 in
theorem gX6_lookOfFaces_X6_digit : GoodIn wsX6_lookOfFaces (va_wsS RX6 325 yX6_digit wsX6_digit) := goodIn_app (goodIn_of _ (by decide +kernel)) ggX6_lookOfFaces_X6_digit
set_option maxRecDepth 20000 in
theorem ggX6_lookOfFaces_X6_seenFromBehind : GoodIn wsX6_lookOfFaces wsX6_seenFromBehind := goodIn_r _ [7] (by decide +kernel) (by decide +kernel)
set_option maxRecDepth 20000 in
theorem gX6_lookOfFaces_X6_seenFromBehind : GoodIn wsX6_lookOfFaces (va_wsS RX6 322 yX6_seenFromBehind wsX6_seenFromBehind) := goodIn_app (goodIn_of _ (by decide +kernel)) ggX6_lookOfFaces_X6_seenFromBehind
theorem dX6_lookOfFaces_0 : decode cX6_lookOfFaces 0 = .ok (.iconst 0, 1) := by decide +kernel
theorem dX6_lookOfFaces_1 : decode cX6_lookOfFaces 1 = .ok (.istore_n 2, 1) := by decide +kernel
theorem dX6_lookOfFaces_2 : decode cX6_lookOfFaces 2 = .ok (.iconst 0, 1) := by decide +kernel
theorem dX6_lookOfFaces_3 : decode cX6_lookOfFaces 3 = .ok (.istore_n 3, 1) := by decide +kernel
theorem dX6_lookOfFaces_4 : decode cX6_lookOfFaces 4 = .ok (.iload_n 3, 1) := by decide +kernel
theorem dX6_lookOfFaces_5 : decode cX6_lookOfFaces 5 = .ok (.iconst 4, 1) := by decide +kernel
theorem dX6_lookOfFaces_6 : decode cX6_lookOfFaces 6 = .ok (.if_icmp .ge 41, 3) := by decide +kernel
theorem dX6_lookOfFaces_9 : decode cX6_lookOfFaces 9 = .ok (.iload_n 0, 1) := by decide +kernel
theorem dX6_lookOfFaces_10 : decode cX6_lookOfFaces 10 = .ok (.iload_n 3, 1) := by decide +kernel
theorem dX6_lookOfFaces_11 : decode cX6_lookOfFaces 11 = .ok (.invokestatic 325, 3) := by decide +kernel
theorem dX6_lookOfFaces_14 : decode cX6_lookOfFaces 14 = .ok (.istore 4, 2) := by decide +kernel
theorem dX6_lookOfFaces_16 : decode cX6_lookOfFaces 16 = .ok (.iload_n 1, 1) := by decide +kernel
theorem dX6_lookOfFaces_17 : decode cX6_lookOfFaces 17 = .ok (.iload_n 3, 1) := by decide +kernel
theorem dX6_lookOfFaces_18 : decode cX6_lookOfFaces 18 = .ok (.invokestatic 322, 3) := by decide +kernel
theorem dX6_lookOfFaces_21 : decode cX6_lookOfFaces 21 = .ok (.invokestatic 325, 3) := by decide +kernel
theorem dX6_lookOfFaces_24 : decode cX6_lookOfFaces 24 = .ok (.istore 5, 2) := by decide +kernel
theorem dX6_lookOfFaces_26 : decode cX6_lookOfFaces 26 = .ok (.iload_n 2, 1) := by decide +kernel
theorem dX6_lookOfFaces_27 : decode cX6_lookOfFaces 27 = .ok (.iload 4, 2) := by decide +kernel
theorem dX6_lookOfFaces_29 : decode cX6_lookOfFaces 29 = .ok (.iload 5, 2) := by decide +kernel
theorem dX6_lookOfFaces_31 : decode cX6_lookOfFaces 31 = .ok (.bipush 16, 2) := by decide +kernel
theorem dX6_lookOfFaces_33 : decode cX6_lookOfFaces 33 = .ok (.ishl, 1) := by decide +kernel
theorem dX6_lookOfFaces_34 : decode cX6_lookOfFaces 34 = .ok (.ior, 1) := by decide +kernel
theorem dX6_lookOfFaces_35 : decode cX6_lookOfFaces 35 = .ok (.iconst 4, 1) := by decide +kernel
theorem dX6_lookOfFaces_36 : decode cX6_lookOfFaces 36 = .ok (.iload_n 3, 1) := by decide +kernel
theorem dX6_lookOfFaces_37 : decode cX6_lookOfFaces 37 = .ok (.imul, 1) := by decide +kernel
theorem dX6_lookOfFaces_38 : decode cX6_lookOfFaces 38 = .ok (.ishl, 1) := by decide +kernel
theorem dX6_lookOfFaces_39 : decode cX6_lookOfFaces 39 = .ok (.ior, 1) := by decide +kernel
theorem dX6_lookOfFaces_40 : decode cX6_lookOfFaces 40 = .ok (.istore_n 2, 1) := by decide +kernel
theorem dX6_lookOfFaces_41 : decode cX6_lookOfFaces 41 = .ok (.iinc 3 1, 3) := by decide +kernel
theorem dX6_lookOfFaces_44 : decode cX6_lookOfFaces 44 = .ok (.goto (-40), 3) := by decide +kernel
theorem dX6_lookOfFaces_47 : decode cX6_lookOfFaces 47 = .ok (.iload_n 2, 1) := by decide +kernel
theorem dX6_lookOfFaces_48 : decode cX6_lookOfFaces 48 = .ok (.ireturn, 1) := by decide +kernel
theorem dX6_digit_0 : decode cX6_digit 0 = .ok (.iload_n 0, 1) := by decide +kernel
theorem dX6_digit_1 : decode cX6_digit 1 = .ok (.istore_n 2, 1) := by decide +kernel
theorem dX6_digit_2 : decode cX6_digit 2 = .ok (.iload_n 1, 1) := by decide +kernel
theorem dX6_digit_3 : decode cX6_digit 3 = .ok (.istore_n 3, 1) := by decide +kernel
theorem dX6_digit_4 : decode cX6_digit 4 = .ok (.iload_n 3, 1) := by decide +kernel
theorem dX6_digit_5 : decode cX6_digit 5 = .ok (.iconst 3, 1) := by decide +kernel
theorem dX6_digit_6 : decode cX6_digit 6 = .ok (.if_icmp .ge 14, 3) := by decide +kernel
theorem dX6_digit_9 : decode cX6_digit 9 = .ok (.iload_n 2, 1) := by decide +kernel
theorem dX6_digit_10 : decode cX6_digit 10 = .ok (.bipush 10, 2) := by decide +kernel
theorem dX6_digit_12 : decode cX6_digit 12 = .ok (.idiv, 1) := by decide +kernel
theorem dX6_digit_13 : decode cX6_digit 13 = .ok (.istore_n 2, 1) := by decide +kernel
theorem dX6_digit_14 : decode cX6_digit 14 = .ok (.iinc 3 1, 3) := by decide +kernel
theorem dX6_digit_17 : decode cX6_digit 17 = .ok (.goto (-13), 3) := by decide +kernel
theorem dX6_digit_20 : decode cX6_digit 20 = .ok (.iload_n 2, 1) := by decide +kernel
theorem dX6_digit_21 : decode cX6_digit 21 = .ok (.bipush 10, 2) := by decide +kernel
theorem dX6_digit_23 : decode cX6_digit 23 = .ok (.irem, 1) := by decide +kernel
theorem dX6_digit_24 : decode cX6_digit 24 = .ok (.ireturn, 1) := by decide +kernel
theorem dX6_placingTurnedOver_0 : decode cX6_placingTurnedOver 0 = .ok (.iload_n 0, 1) := by decide +kernel
theorem dX6_placingTurnedOver_1 : decode cX6_placingTurnedOver 1 = .ok (.iconst (-1), 1) := by decide +kernel
theorem dX6_placingTurnedOver_2 : decode cX6_placingTurnedOver 2 = .ok (.if_icmp .ne 5, 3) := by decide +kernel
theorem dX6_placingTurnedOver_5 : decode cX6_placingTurnedOver 5 = .ok (.iconst (-1), 1) := by decide +kernel
theorem dX6_placingTurnedOver_6 : decode cX6_placingTurnedOver 6 = .ok (.ireturn, 1) := by decide +kernel
theorem dX6_placingTurnedOver_7 : decode cX6_placingTurnedOver 7 = .ok (.iload_n 0, 1) := by decide +kernel
theorem dX6_placingTurnedOver_8 : decode cX6_placingTurnedOver 8 = .ok (.bipush 8, 2) := by decide +kernel
theorem dX6_placingTurnedOver_10 : decode cX6_placingTurnedOver 10 = .ok (.idiv, 1) := by decide +kernel
theorem dX6_placingTurnedOver_11 : decode cX6_placingTurnedOver 11 = .ok (.istore_n 1, 1) := by decide +kernel
theorem dX6_placingTurnedOver_12 : decode cX6_placingTurnedOver 12 = .ok (.iconst 1, 1) := by decide +kernel
theorem dX6_placingTurnedOver_13 : decode cX6_placingTurnedOver 13 = .ok (.iload_n 0, 1) := by decide +kernel
theorem dX6_placingTurnedOver_14 : decode cX6_placingTurnedOver 14 = .ok (.iconst 4, 1) := by decide +kernel
theorem dX6_placingTurnedOver_15 : decode cX6_placingTurnedOver 15 = .ok (.idiv, 1) := by decide +kernel
theorem dX6_placingTurnedOver_16 : decode cX6_placingTurnedOver 16 = .ok (.iconst 2, 1) := by decide +kernel
theorem dX6_placingTurnedOver_17 : decode cX6_placingTurnedOver 17 = .ok (.irem, 1) := by decide +kernel
theorem dX6_placingTurnedOver_18 : decode cX6_placingTurnedOver 18 = .ok (.isub, 1) := by decide +kernel
theorem dX6_placingTurnedOver_19 : decode cX6_placingTurnedOver 19 = .ok (.istore_n 2, 1) := by decide +kernel
theorem dX6_placingTurnedOver_20 : decode cX6_placingTurnedOver 20 = .ok (.iconst 4, 1) := by decide +kernel
theorem dX6_placingTurnedOver_21 : decode cX6_placingTurnedOver 21 = .ok (.iload_n 0, 1) := by decide +kernel
theorem dX6_placingTurnedOver_22 : decode cX6_placingTurnedOver 22 = .ok (.iconst 4, 1) := by decide +kernel
theorem dX6_placingTurnedOver_23 : decode cX6_placingTurnedOver 23 = .ok (.irem, 1) := by decide +kernel
theorem dX6_placingTurnedOver_24 : decode cX6_placingTurnedOver 24 = .ok (.isub, 1) := by decide +kernel
theorem dX6_placingTurnedOver_25 : decode cX6_placingTurnedOver 25 = .ok (.iconst 4, 1) := by decide +kernel
theorem dX6_placingTurnedOver_26 : decode cX6_placingTurnedOver 26 = .ok (.irem, 1) := by decide +kernel
theorem dX6_placingTurnedOver_27 : decode cX6_placingTurnedOver 27 = .ok (.istore_n 3, 1) := by decide +kernel
theorem dX6_placingTurnedOver_28 : decode cX6_placingTurnedOver 28 = .ok (.bipush 8, 2) := by decide +kernel
theorem dX6_placingTurnedOver_30 : decode cX6_placingTurnedOver 30 = .ok (.iload_n 1, 1) := by decide +kernel
theorem dX6_placingTurnedOver_31 : decode cX6_placingTurnedOver 31 = .ok (.imul, 1) := by decide +kernel
theorem dX6_placingTurnedOver_32 : decode cX6_placingTurnedOver 32 = .ok (.iconst 4, 1) := by decide +kernel
theorem dX6_placingTurnedOver_33 : decode cX6_placingTurnedOver 33 = .ok (.iload_n 2, 1) := by decide +kernel
theorem dX6_placingTurnedOver_34 : decode cX6_placingTurnedOver 34 = .ok (.imul, 1) := by decide +kernel
theorem dX6_placingTurnedOver_35 : decode cX6_placingTurnedOver 35 = .ok (.iadd, 1) := by decide +kernel
theorem dX6_placingTurnedOver_36 : decode cX6_placingTurnedOver 36 = .ok (.iload_n 3, 1) := by decide +kernel
theorem dX6_placingTurnedOver_37 : decode cX6_placingTurnedOver 37 = .ok (.iadd, 1) := by decide +kernel
theorem dX6_placingTurnedOver_38 : decode cX6_placingTurnedOver 38 = .ok (.ireturn, 1) := by decide +kernel
theorem dJ6_bitCount_0f7a4_0 : decode cJ6_bitCount_0f7a4 0 = .ok (.iload_n 0, 1) := by decide +kernel
theorem dJ6_bitCount_0f7a4_1 : decode cJ6_bitCount_0f7a4 1 = .ok (.iload_n 0, 1) := by decide +kernel
theorem dJ6_bitCount_0f7a4_2 : decode cJ6_bitCount_0f7a4 2 = .ok (.iconst 1, 1) := by decide +kernel
theorem dJ6_bitCount_0f7a4_3 : decode cJ6_bitCount_0f7a4 3 = .ok (.iushr, 1) := by decide +kernel
theorem dJ6_bitCount_0f7a4_4 : decode cJ6_bitCount_0f7a4 4 = .ok (.ldc_w 265, 3) := by decide +kernel
theorem dJ6_bitCount_0f7a4_7 : decode cJ6_bitCount_0f7a4 7 = .ok (.iand, 1) := by decide +kernel
theorem dJ6_bitCount_0f7a4_8 : decode cJ6_bitCount_0f7a4 8 = .ok (.isub, 1) := by decide +kernel
theorem dJ6_bitCount_0f7a4_9 : decode cJ6_bitCount_0f7a4 9 = .ok (.istore_n 0, 1) := by decide +kernel
theorem dJ6_bitCount_0f7a4_10 : decode cJ6_bitCount_0f7a4 10 = .ok (.iload_n 0, 1) := by decide +kernel
theorem dJ6_bitCount_0f7a4_11 : decode cJ6_bitCount_0f7a4 11 = .ok (.ldc_w 266, 3) := by decide +kernel
theorem dJ6_bitCount_0f7a4_14 : decode cJ6_bitCount_0f7a4 14 = .ok (.iand, 1) := by decide +kernel
theorem dJ6_bitCount_0f7a4_15 : decode cJ6_bitCount_0f7a4 15 = .ok (.iload_n 0, 1) := by decide +kernel
theorem dJ6_bitCount_0f7a4_16 : decode cJ6_bitCount_0f7a4 16 = .ok (.iconst 2, 1) := by decide +kernel
theorem dJ6_bitCount_0f7a4_17 : decode cJ6_bitCount_0f7a4 17 = .ok (.iushr, 1) := by decide +kernel
theorem dJ6_bitCount_0f7a4_18 : decode cJ6_bitCount_0f7a4 18 = .ok (.ldc_w 266, 3) := by decide +kernel
theorem dJ6_bitCount_0f7a4_21 : decode cJ6_bitCount_0f7a4 21 = .ok (.iand, 1) := by decide +kernel
theorem dJ6_bitCount_0f7a4_22 : decode cJ6_bitCount_0f7a4 22 = .ok (.iadd, 1) := by decide +kernel
theorem dJ6_bitCount_0f7a4_23 : decode cJ6_bitCount_0f7a4 23 = .ok (.istore_n 0, 1) := by decide +kernel
theorem dJ6_bitCount_0f7a4_24 : decode cJ6_bitCount_0f7a4 24 = .ok (.iload_n 0, 1) := by decide +kernel
theorem dJ6_bitCount_0f7a4_25 : decode cJ6_bitCount_0f7a4 25 = .ok (.iload_n 0, 1) := by decide +kernel
theorem dJ6_bitCount_0f7a4_26 : decode cJ6_bitCount_0f7a4 26 = .ok (.iconst 4, 1) := by decide +kernel
theorem dJ6_bitCount_0f7a4_27 : decode cJ6_bitCount_0f7a4 27 = .ok (.iushr, 1) := by decide +kernel
theorem dJ6_bitCount_0f7a4_28 : decode cJ6_bitCount_0f7a4 28 = .ok (.iadd, 1) := by decide +kernel
theorem dJ6_bitCount_0f7a4_29 : decode cJ6_bitCount_0f7a4 29 = .ok (.ldc_w 267, 3) := by decide +kernel
theorem dJ6_bitCount_0f7a4_32 : decode cJ6_bitCount_0f7a4 32 = .ok (.iand, 1) := by decide +kernel
theorem dJ6_bitCount_0f7a4_33 : decode cJ6_bitCount_0f7a4 33 = .ok (.istore_n 0, 1) := by decide +kernel
theorem dJ6_bitCount_0f7a4_34 : decode cJ6_bitCount_0f7a4 34 = .ok (.iload_n 0, 1) := by decide +kernel
theorem dJ6_bitCount_0f7a4_35 : decode cJ6_bitCount_0f7a4 35 = .ok (.iload_n 0, 1) := by decide +kernel
theorem dJ6_bitCount_0f7a4_36 : decode cJ6_bitCount_0f7a4 36 = .ok (.bipush 8, 2) := by decide +kernel
theorem dJ6_bitCount_0f7a4_38 : decode cJ6_bitCount_0f7a4 38 = .ok (.iushr, 1) := by decide +kernel
theorem dJ6_bitCount_0f7a4_39 : decode cJ6_bitCount_0f7a4 39 = .ok (.iadd, 1) := by decide +kernel
theorem dJ6_bitCount_0f7a4_40 : decode cJ6_bitCount_0f7a4 40 = .ok (.istore_n 0, 1) := by decide +kernel
theorem dJ6_bitCount_0f7a4_41 : decode cJ6_bitCount_0f7a4 41 = .ok (.iload_n 0, 1) := by decide +kernel
theorem dJ6_bitCount_0f7a4_42 : decode cJ6_bitCount_0f7a4 42 = .ok (.iload_n 0, 1) := by decide +kernel
theorem dJ6_bitCount_0f7a4_43 : decode cJ6_bitCount_0f7a4 43 = .ok (.bipush 16, 2) := by decide +kernel
theorem dJ6_bitCount_0f7a4_45 : decode cJ6_bitCount_0f7a4 45 = .ok (.iushr, 1) := by decide +kernel
theorem dJ6_bitCount_0f7a4_46 : decode cJ6_bitCount_0f7a4 46 = .ok (.iadd, 1) := by decide +kernel
theorem dJ6_bitCount_0f7a4_47 : decode cJ6_bitCount_0f7a4 47 = .ok (.istore_n 0, 1) := by decide +kernel
theorem dJ6_bitCount_0f7a4_48 : decode cJ6_bitCount_0f7a4 48 = .ok (.iload_n 0, 1) := by decide +kernel
theorem dJ6_bitCount_0f7a4_49 : decode cJ6_bitCount_0f7a4 49 = .ok (.bipush 63, 2) := by decide +kernel
theorem dJ6_bitCount_0f7a4_51 : decode cJ6_bitCount_0f7a4 51 = .ok (.iand, 1) := by decide +kernel
theorem dJ6_bitCount_0f7a4_52 : decode cJ6_bitCount_0f7a4 52 = .ok (.ireturn, 1) := by decide +kernel
theorem dL_cell_0 : decode cL_cell 0 = .ok (.iload_n 1, 1) := by decide +kernel
theorem dL_cell_1 : decode cL_cell 1 = .ok (.aload_n 0, 1) := by decide +kernel
theorem dL_cell_2 : decode cL_cell 2 = .ok (.arraylength, 1) := by decide +kernel
theorem dL_cell_3 : decode cL_cell 3 = .ok (.if_icmp .ge 9, 3) := by decide +kernel
theorem dL_cell_6 : decode cL_cell 6 = .ok (.aload_n 0, 1) := by decide +kernel
theorem dL_cell_7 : decode cL_cell 7 = .ok (.iload_n 1, 1) := by decide +kernel
theorem dL_cell_8 : decode cL_cell 8 = .ok (.iaload, 1) := by decide +kernel
theorem dL_cell_9 : decode cL_cell 9 = .ok (.goto 9, 3) := by decide +kernel
theorem dL_cell_12 : decode cL_cell 12 = .ok (.ldc 7, 2) := by decide +kernel
theorem dL_cell_14 : decode cL_cell 14 = .ok (.iload_n 1, 1) := by decide +kernel
theorem dL_cell_15 : decode cL_cell 15 = .ok (.iconst 1, 1) := by decide +kernel
theorem dL_cell_16 : decode cL_cell 16 = .ok (.iadd, 1) := by decide +kernel
theorem dL_cell_17 : decode cL_cell 17 = .ok (.imul, 1) := by decide +kernel
theorem dL_cell_18 : decode cL_cell 18 = .ok (.ireturn, 1) := by decide +kernel
theorem dL_at_0 : decode cL_at 0 = .ok (.iload_n 0, 1) := by decide +kernel
theorem dL_at_1 : decode cL_at 1 = .ok (.iconst 1, 1) := by decide +kernel
theorem dL_at_2 : decode cL_at 2 = .ok (.iushr, 1) := by decide +kernel
theorem dL_at_3 : decode cL_at 3 = .ok (.iload_n 1, 1) := by decide +kernel
theorem dL_at_4 : decode cL_at 4 = .ok (.irem, 1) := by decide +kernel
theorem dL_at_5 : decode cL_at 5 = .ok (.ireturn, 1) := by decide +kernel
theorem dL_color_0 : decode cL_color 0 = .ok (.bipush 8, 2) := by decide +kernel
theorem dL_color_2 : decode cL_color 2 = .ok (.iload_n 0, 1) := by decide +kernel
theorem dL_color_3 : decode cL_color 3 = .ok (.bipush 8, 2) := by decide +kernel
theorem dL_color_5 : decode cL_color 5 = .ok (.idiv, 1) := by decide +kernel
theorem dL_color_6 : decode cL_color 6 = .ok (.imul, 1) := by decide +kernel
theorem dL_color_7 : decode cL_color 7 = .ok (.iconst 4, 1) := by decide +kernel
theorem dL_color_8 : decode cL_color 8 = .ok (.iload_n 2, 1) := by decide +kernel
theorem dL_color_9 : decode cL_color 9 = .ok (.ifCond .eq 13, 3) := by decide +kernel
theorem dL_color_12 : decode cL_color 12 = .ok (.iconst 1, 1) := by decide +kernel
theorem dL_color_13 : decode cL_color 13 = .ok (.iload_n 0, 1) := by decide +kernel
theorem dL_color_14 : decode cL_color 14 = .ok (.iconst 4, 1) := by decide +kernel
theorem dL_color_15 : decode cL_color 15 = .ok (.idiv, 1) := by decide +kernel
theorem dL_color_16 : decode cL_color 16 = .ok (.iconst 2, 1) := by decide +kernel
theorem dL_color_17 : decode cL_color 17 = .ok (.irem, 1) := by decide +kernel
theorem dL_color_18 : decode cL_color 18 = .ok (.isub, 1) := by decide +kernel
theorem dL_color_19 : decode cL_color 19 = .ok (.goto 8, 3) := by decide +kernel
theorem dL_color_22 : decode cL_color 22 = .ok (.iload_n 0, 1) := by decide +kernel
theorem dL_color_23 : decode cL_color 23 = .ok (.iconst 4, 1) := by decide +kernel
theorem dL_color_24 : decode cL_color 24 = .ok (.idiv, 1) := by decide +kernel
theorem dL_color_25 : decode cL_color 25 = .ok (.iconst 2, 1) := by decide +kernel
theorem dL_color_26 : decode cL_color 26 = .ok (.irem, 1) := by decide +kernel
theorem dL_color_27 : decode cL_color 27 = .ok (.imul, 1) := by decide +kernel
theorem dL_color_28 : decode cL_color 28 = .ok (.iadd, 1) := by decide +kernel
theorem dL_color_29 : decode cL_color 29 = .ok (.istore 4, 2) := by decide +kernel
theorem dL_color_31 : decode cL_color 31 = .ok (.iload_n 2, 1) := by decide +kernel
theorem dL_color_32 : decode cL_color 32 = .ok (.ifCond .eq 25, 3) := by decide +kernel
theorem dL_color_35 : decode cL_color 35 = .ok (.iload_n 1, 1) := by decide +kernel
theorem dL_color_36 : decode cL_color 36 = .ok (.iconst 1, 1) := by decide +kernel
theorem dL_color_37 : decode cL_color 37 = .ok (.if_icmp .ne 7, 3) := by decide +kernel
theorem dL_color_40 : decode cL_color 40 = .ok (.iconst 3, 1) := by decide +kernel
theorem dL_color_41 : decode cL_color 41 = .ok (.goto 17, 3) := by decide +kernel
theorem dL_color_44 : decode cL_color 44 = .ok (.iload_n 1, 1) := by decide +kernel
theorem dL_color_45 : decode cL_color 45 = .ok (.iconst 3, 1) := by decide +kernel
theorem dL_color_46 : decode cL_color 46 = .ok (.if_icmp .ne 7, 3) := by decide +kernel
theorem dL_color_49 : decode cL_color 49 = .ok (.iconst 1, 1) := by decide +kernel
theorem dL_color_50 : decode cL_color 50 = .ok (.goto 8, 3) := by decide +kernel
theorem dL_color_53 : decode cL_color 53 = .ok (.iload_n 1, 1) := by decide +kernel
theorem dL_color_54 : decode cL_color 54 = .ok (.goto 4, 3) := by decide +kernel
theorem dL_color_57 : decode cL_color 57 = .ok (.iload_n 1, 1) := by decide +kernel
theorem dL_color_58 : decode cL_color 58 = .ok (.istore 5, 2) := by decide +kernel
theorem dL_color_60 : decode cL_color 60 = .ok (.iconst 0, 1) := by decide +kernel
theorem dL_color_61 : decode cL_color 61 = .ok (.istore 6, 2) := by decide +kernel
theorem dL_color_63 : decode cL_color 63 = .ok (.iload 6, 2) := by decide +kernel
theorem dL_color_65 : decode cL_color 65 = .ok (.iload_n 0, 1) := by decide +kernel
theorem dL_color_66 : decode cL_color 66 = .ok (.iconst 4, 1) := by decide +kernel
theorem dL_color_67 : decode cL_color 67 = .ok (.irem, 1) := by decide +kernel
theorem dL_color_68 : decode cL_color 68 = .ok (.if_icmp .ge 45, 3) := by decide +kernel
theorem dL_color_71 : decode cL_color 71 = .ok (.iload_n 2, 1) := by decide +kernel
theorem dL_color_72 : decode cL_color 72 = .ok (.ifCond .eq 20, 3) := by decide +kernel
theorem dL_color_75 : decode cL_color 75 = .ok (.iload 5, 2) := by decide +kernel
theorem dL_color_77 : decode cL_color 77 = .ok (.iconst 3, 1) := by decide +kernel
theorem dL_color_78 : decode cL_color 78 = .ok (.if_icmp .ne 7, 3) := by decide +kernel
theorem dL_color_81 : decode cL_color 81 = .ok (.iconst 0, 1) := by decide +kernel
theorem dL_color_82 : decode cL_color 82 = .ok (.goto 23, 3) := by decide +kernel
theorem dL_color_85 : decode cL_color 85 = .ok (.iload 5, 2) := by decide +kernel
theorem dL_color_87 : decode cL_color 87 = .ok (.iconst 1, 1) := by decide +kernel
theorem dL_color_88 : decode cL_color 88 = .ok (.iadd, 1) := by decide +kernel
theorem dL_color_89 : decode cL_color 89 = .ok (.goto 16, 3) := by decide +kernel
theorem dL_color_92 : decode cL_color 92 = .ok (.iload 5, 2) := by decide +kernel
theorem dL_color_94 : decode cL_color 94 = .ok (.ifCond .ne 7, 3) := by decide +kernel
theorem dL_color_97 : decode cL_color 97 = .ok (.iconst 3, 1) := by decide +kernel
theorem dL_color_98 : decode cL_color 98 = .ok (.goto 7, 3) := by decide +kernel
theorem dL_color_101 : decode cL_color 101 = .ok (.iload 5, 2) := by decide +kernel
theorem dL_color_103 : decode cL_color 103 = .ok (.iconst 1, 1) := by decide +kernel
theorem dL_color_104 : decode cL_color 104 = .ok (.isub, 1) := by decide +kernel
theorem dL_color_105 : decode cL_color 105 = .ok (.istore 5, 2) := by decide +kernel
theorem dL_color_107 : decode cL_color 107 = .ok (.iinc 6 1, 3) := by decide +kernel
theorem dL_color_110 : decode cL_color 110 = .ok (.goto (-47), 3) := by decide +kernel
theorem dL_color_113 : decode cL_color 113 = .ok (.aload_n 3, 1) := by decide +kernel
theorem dL_color_114 : decode cL_color 114 = .ok (.iload 4, 2) := by decide +kernel
theorem dL_color_116 : decode cL_color 116 = .ok (.iload 5, 2) := by decide +kernel
theorem dL_color_118 : decode cL_color 118 = .ok (.iadd, 1) := by decide +kernel
theorem dL_color_119 : decode cL_color 119 = .ok (.iaload, 1) := by decide +kernel
theorem dL_color_120 : decode cL_color 120 = .ok (.ireturn, 1) := by decide +kernel
theorem dL_beyond_0 : decode cL_beyond 0 = .ok (.iload_n 0, 1) := by decide +kernel
theorem dL_beyond_1 : decode cL_beyond 1 = .ok (.aload_n 2, 1) := by decide +kernel
theorem dL_beyond_2 : decode cL_beyond 2 = .ok (.iconst 1, 1) := by decide +kernel
theorem dL_beyond_3 : decode cL_beyond 3 = .ok (.iaload, 1) := by decide +kernel
theorem dL_beyond_4 : decode cL_beyond 4 = .ok (.irem, 1) := by decide +kernel
theorem dL_beyond_5 : decode cL_beyond 5 = .ok (.iload_n 1, 1) := by decide +kernel
theorem dL_beyond_6 : decode cL_beyond 6 = .ok (.iconst 1, 1) := by decide +kernel
theorem dL_beyond_7 : decode cL_beyond 7 = .ok (.if_icmp .ne 7, 3) := by decide +kernel
theorem dL_beyond_10 : decode cL_beyond 10 = .ok (.iconst 1, 1) := by decide +kernel
theorem dL_beyond_11 : decode cL_beyond 11 = .ok (.goto 13, 3) := by decide +kernel
theorem dL_beyond_14 : decode cL_beyond 14 = .ok (.iload_n 1, 1) := by decide +kernel
theorem dL_beyond_15 : decode cL_beyond 15 = .ok (.iconst 3, 1) := by decide +kernel
theorem dL_beyond_16 : decode cL_beyond 16 = .ok (.if_icmp .ne 7, 3) := by decide +kernel
theorem dL_beyond_19 : decode cL_beyond 19 = .ok (.iconst (-1), 1) := by decide +kernel
theorem dL_beyond_20 : decode cL_beyond 20 = .ok (.goto 4, 3) := by decide +kernel
theorem dL_beyond_23 : decode cL_beyond 23 = .ok (.iconst 0, 1) := by decide +kernel
theorem dL_beyond_24 : decode cL_beyond 24 = .ok (.iadd, 1) := by decide +kernel
theorem dL_beyond_25 : decode cL_beyond 25 = .ok (.istore_n 3, 1) := by decide +kernel
theorem dL_beyond_26 : decode cL_beyond 26 = .ok (.iload_n 0, 1) := by decide +kernel
theorem dL_beyond_27 : decode cL_beyond 27 = .ok (.aload_n 2, 1) := by decide +kernel
theorem dL_beyond_28 : decode cL_beyond 28 = .ok (.iconst 1, 1) := by decide +kernel
theorem dL_beyond_29 : decode cL_beyond 29 = .ok (.iaload, 1) := by decide +kernel
theorem dL_beyond_30 : decode cL_beyond 30 = .ok (.idiv, 1) := by decide +kernel
theorem dL_beyond_31 : decode cL_beyond 31 = .ok (.iload_n 1, 1) := by decide +kernel
theorem dL_beyond_32 : decode cL_beyond 32 = .ok (.iconst 2, 1) := by decide +kernel
theorem dL_beyond_33 : decode cL_beyond 33 = .ok (.if_icmp .ne 7, 3) := by decide +kernel
theorem dL_beyond_36 : decode cL_beyond 36 = .ok (.iconst 1, 1) := by decide +kernel
theorem dL_beyond_37 : decode cL_beyond 37 = .ok (.goto 12, 3) := by decide +kernel
theorem dL_beyond_40 : decode cL_beyond 40 = .ok (.iload_n 1, 1) := by decide +kernel
theorem dL_beyond_41 : decode cL_beyond 41 = .ok (.ifCond .ne 7, 3) := by decide +kernel
theorem dL_beyond_44 : decode cL_beyond 44 = .ok (.iconst (-1), 1) := by decide +kernel
theorem dL_beyond_45 : decode cL_beyond 45 = .ok (.goto 4, 3) := by decide +kernel
theorem dL_beyond_48 : decode cL_beyond 48 = .ok (.iconst 0, 1) := by decide +kernel
theorem dL_beyond_49 : decode cL_beyond 49 = .ok (.iadd, 1) := by decide +kernel
theorem dL_beyond_50 : decode cL_beyond 50 = .ok (.istore 4, 2) := by decide +kernel
theorem dL_beyond_52 : decode cL_beyond 52 = .ok (.iload_n 3, 1) := by decide +kernel
theorem dL_beyond_53 : decode cL_beyond 53 = .ok (.ifCond .lt 23, 3) := by decide +kernel
theorem dL_beyond_56 : decode cL_beyond 56 = .ok (.iload 4, 2) := by decide +kernel
theorem dL_beyond_58 : decode cL_beyond 58 = .ok (.ifCond .lt 18, 3) := by decide +kernel
theorem dL_beyond_61 : decode cL_beyond 61 = .ok (.iload_n 3, 1) := by decide +kernel
theorem dL_beyond_62 : decode cL_beyond 62 = .ok (.aload_n 2, 1) := by decide +kernel
theorem dL_beyond_63 : decode cL_beyond 63 = .ok (.iconst 1, 1) := by decide +kernel
theorem dL_beyond_64 : decode cL_beyond 64 = .ok (.iaload, 1) := by decide +kernel
theorem dL_beyond_65 : decode cL_beyond 65 = .ok (.if_icmp .eq 11, 3) := by decide +kernel
theorem dL_beyond_68 : decode cL_beyond 68 = .ok (.iload 4, 2) := by decide +kernel
theorem dL_beyond_70 : decode cL_beyond 70 = .ok (.aload_n 2, 1) := by decide +kernel
theorem dL_beyond_71 : decode cL_beyond 71 = .ok (.iconst 0, 1) := by decide +kernel
theorem dL_beyond_72 : decode cL_beyond 72 = .ok (.iaload, 1) := by decide +kernel
theorem dL_beyond_73 : decode cL_beyond 73 = .ok (.if_icmp .ne 7, 3) := by decide +kernel
theorem dL_beyond_76 : decode cL_beyond 76 = .ok (.iconst (-1), 1) := by decide +kernel
theorem dL_beyond_77 : decode cL_beyond 77 = .ok (.goto 11, 3) := by decide +kernel
theorem dL_beyond_80 : decode cL_beyond 80 = .ok (.iload 4, 2) := by decide +kernel
theorem dL_beyond_82 : decode cL_beyond 82 = .ok (.aload_n 2, 1) := by decide +kernel
theorem dL_beyond_83 : decode cL_beyond 83 = .ok (.iconst 1, 1) := by decide +kernel
theorem dL_beyond_84 : decode cL_beyond 84 = .ok (.iaload, 1) := by decide +kernel
theorem dL_beyond_85 : decode cL_beyond 85 = .ok (.imul, 1) := by decide +kernel
theorem dL_beyond_86 : decode cL_beyond 86 = .ok (.iload_n 3, 1) := by decide +kernel
theorem dL_beyond_87 : decode cL_beyond 87 = .ok (.iadd, 1) := by decide +kernel
theorem dL_beyond_88 : decode cL_beyond 88 = .ok (.ireturn, 1) := by decide +kernel
set_option maxRecDepth 20000 in
theorem ggL_fits_L_color : GoodIn wsL_fits wsL_color := goodIn_r _ [4] (by decide +kernel) (by decide +kernel)
set_option maxRecDepth 20000 in
theorem gL_fits_L_color : GoodIn wsL_fits (va_wsS RL 8 yL_color wsL_color) := goodIn_app (goodIn_of _ (by decide +kernel)) ggL_fits_L_color
set_option maxRecDepth 20000 in
theorem ggL_fits_L_beyond : GoodIn wsL_fits wsL_beyond := goodIn_r _ [7] (by decide +kernel) (by decide +kernel)
set_option maxRecDepth 20000 in
theorem gL_fits_L_beyond : GoodIn wsL_fits (va_wsS RL 14 yL_beyond wsL_beyond) := goodIn_app (goodIn_of _ (by decide +kernel)) ggL_fits_L_beyond
theorem dL_fits_0 : decode cL_fits 0 = .ok (.bipush 9, 2) := by decide +kernel
theorem dL_fits_2 : decode cL_fits 2 = .ok (.istore 4, 2) := by decide +kernel
theorem dL_fits_4 : decode cL_fits 4 = .ok (.iconst 0, 1) := by decide +kernel
theorem dL_fits_5 : decode cL_fits 5 = .ok (.istore 5, 2) := by decide +kernel
theorem dL_fits_7 : decode cL_fits 7 = .ok (.iload 5, 2) := by decide +kernel
theorem dL_fits_9 : decode cL_fits 9 = .ok (.iconst 4, 1) := by decide +kernel
theorem dL_fits_10 : decode cL_fits 10 = .ok (.if_icmp .ge 201, 3) := by decide +kernel
theorem dL_fits_13 : decode cL_fits 13 = .ok (.iload_n 1, 1) := by decide +kernel
theorem dL_fits_14 : decode cL_fits 14 = .ok (.iload 5, 2) := by decide +kernel
theorem dL_fits_16 : decode cL_fits 16 = .ok (.iconst 0, 1) := by decide +kernel
theorem dL_fits_17 : decode cL_fits 17 = .ok (.aload_n 3, 1) := by decide +kernel
theorem dL_fits_18 : decode cL_fits 18 = .ok (.invokestatic 8, 3) := by decide +kernel
theorem dL_fits_21 : decode cL_fits 21 = .ok (.istore 6, 2) := by decide +kernel
theorem dL_fits_23 : decode cL_fits 23 = .ok (.iload_n 1, 1) := by decide +kernel
theorem dL_fits_24 : decode cL_fits 24 = .ok (.iload 5, 2) := by decide +kernel
theorem dL_fits_26 : decode cL_fits 26 = .ok (.iconst 1, 1) := by decide +kernel
theorem dL_fits_27 : decode cL_fits 27 = .ok (.aload_n 3, 1) := by decide +kernel
theorem dL_fits_28 : decode cL_fits 28 = .ok (.invokestatic 8, 3) := by decide +kernel
theorem dL_fits_31 : decode cL_fits 31 = .ok (.istore 7, 2) := by decide +kernel
theorem dL_fits_33 : decode cL_fits 33 = .ok (.iload_n 0, 1) := by decide +kernel
theorem dL_fits_34 : decode cL_fits 34 = .ok (.iload 5, 2) := by decide +kernel
theorem dL_fits_36 : decode cL_fits 36 = .ok (.aload_n 2, 1) := by decide +kernel
theorem dL_fits_37 : decode cL_fits 37 = .ok (.invokestatic 14, 3) := by decide +kernel
theorem dL_fits_40 : decode cL_fits 40 = .ok (.istore 8, 2) := by decide +kernel
theorem dL_fits_42 : decode cL_fits 42 = .ok (.bipush 9, 2) := by decide +kernel
theorem dL_fits_44 : decode cL_fits 44 = .ok (.istore 9, 2) := by decide +kernel
theorem dL_fits_46 : decode cL_fits 46 = .ok (.iload 8, 2) := by decide +kernel
theorem dL_fits_48 : decode cL_fits 48 = .ok (.ifCond .ge 37, 3) := by decide +kernel
theorem dL_fits_51 : decode cL_fits 51 = .ok (.aload_n 2, 1) := by decide +kernel
theorem dL_fits_52 : decode cL_fits 52 = .ok (.iconst 2, 1) := by decide +kernel
theorem dL_fits_53 : decode cL_fits 53 = .ok (.iaload, 1) := by decide +kernel
theorem dL_fits_54 : decode cL_fits 54 = .ok (.ifCond .le 8, 3) := by decide +kernel
theorem dL_fits_57 : decode cL_fits 57 = .ok (.iload 6, 2) := by decide +kernel
theorem dL_fits_59 : decode cL_fits 59 = .ok (.ifCond .gt 15, 3) := by decide +kernel
theorem dL_fits_62 : decode cL_fits 62 = .ok (.aload_n 2, 1) := by decide +kernel
theorem dL_fits_63 : decode cL_fits 63 = .ok (.iconst 2, 1) := by decide +kernel
theorem dL_fits_64 : decode cL_fits 64 = .ok (.iaload, 1) := by decide +kernel
theorem dL_fits_65 : decode cL_fits 65 = .ok (.iconst 2, 1) := by decide +kernel
theorem dL_fits_66 : decode cL_fits 66 = .ok (.if_icmp .ne 12, 3) := by decide +kernel
theorem dL_fits_69 : decode cL_fits 69 = .ok (.iload 7, 2) := by decide +kernel
theorem dL_fits_71 : decode cL_fits 71 = .ok (.ifCond .le 7, 3) := by decide +kernel
theorem dL_fits_74 : decode cL_fits 74 = .ok (.iconst 3, 1) := by decide +kernel
theorem dL_fits_75 : decode cL_fits 75 = .ok (.goto 5, 3) := by decide +kernel
theorem dL_fits_78 : decode cL_fits 78 = .ok (.bipush 9, 2) := by decide +kernel
theorem dL_fits_80 : decode cL_fits 80 = .ok (.istore 9, 2) := by decide +kernel
theorem dL_fits_82 : decode cL_fits 82 = .ok (.goto 107, 3) := by decide +kernel
theorem dL_fits_85 : decode cL_fits 85 = .ok (.aload_n 2, 1) := by decide +kernel
theorem dL_fits_86 : decode cL_fits 86 = .ok (.iconst 4, 1) := by decide +kernel
theorem dL_fits_87 : decode cL_fits 87 = .ok (.iload 8, 2) := by decide +kernel
theorem dL_fits_89 : decode cL_fits 89 = .ok (.iadd, 1) := by decide +kernel
theorem dL_fits_90 : decode cL_fits 90 = .ok (.iaload, 1) := by decide +kernel
theorem dL_fits_91 : decode cL_fits 91 = .ok (.ifCond .lt 98, 3) := by decide +kernel
theorem dL_fits_94 : decode cL_fits 94 = .ok (.iload 5, 2) := by decide +kernel
theorem dL_fits_96 : decode cL_fits 96 = .ok (.iconst 2, 1) := by decide +kernel
theorem dL_fits_97 : decode cL_fits 97 = .ok (.if_icmp .ge 10, 3) := by decide +kernel
theorem dL_fits_100 : decode cL_fits 100 = .ok (.iload 5, 2) := by decide +kernel
theorem dL_fits_102 : decode cL_fits 102 = .ok (.iconst 2, 1) := by decide +kernel
theorem dL_fits_103 : decode cL_fits 103 = .ok (.iadd, 1) := by decide +kernel
theorem dL_fits_104 : decode cL_fits 104 = .ok (.goto 7, 3) := by decide +kernel
theorem dL_fits_107 : decode cL_fits 107 = .ok (.iload 5, 2) := by decide +kernel
theorem dL_fits_109 : decode cL_fits 109 = .ok (.iconst 2, 1) := by decide +kernel
theorem dL_fits_110 : decode cL_fits 110 = .ok (.isub, 1) := by decide +kernel
theorem dL_fits_111 : decode cL_fits 111 = .ok (.istore 10, 2) := by decide +kernel
theorem dL_fits_113 : decode cL_fits 113 = .ok (.aload_n 2, 1) := by decide +kernel
theorem dL_fits_114 : decode cL_fits 114 = .ok (.iconst 4, 1) := by decide +kernel
theorem dL_fits_115 : decode cL_fits 115 = .ok (.iload 8, 2) := by decide +kernel
theorem dL_fits_117 : decode cL_fits 117 = .ok (.iadd, 1) := by decide +kernel
theorem dL_fits_118 : decode cL_fits 118 = .ok (.iaload, 1) := by decide +kernel
theorem dL_fits_119 : decode cL_fits 119 = .ok (.iload 10, 2) := by decide +kernel
theorem dL_fits_121 : decode cL_fits 121 = .ok (.iconst 0, 1) := by decide +kernel
theorem dL_fits_122 : decode cL_fits 122 = .ok (.aload_n 3, 1) := by decide +kernel
theorem dL_fits_123 : decode cL_fits 123 = .ok (.invokestatic 8, 3) := by decide +kernel
theorem dL_fits_126 : decode cL_fits 126 = .ok (.iload 6, 2) := by decide +kernel
theorem dL_fits_128 : decode cL_fits 128 = .ok (.if_icmp .eq 7, 3) := by decide +kernel
theorem dL_fits_131 : decode cL_fits 131 = .ok (.iconst 4, 1) := by decide +kernel
theorem dL_fits_132 : decode cL_fits 132 = .ok (.goto 55, 3) := by decide +kernel
theorem dL_fits_135 : decode cL_fits 135 = .ok (.aload_n 2, 1) := by decide +kernel
theorem dL_fits_136 : decode cL_fits 136 = .ok (.iconst 4, 1) := by decide +kernel
theorem dL_fits_137 : decode cL_fits 137 = .ok (.iload 8, 2) := by decide +kernel
theorem dL_fits_139 : decode cL_fits 139 = .ok (.iadd, 1) := by decide +kernel
theorem dL_fits_140 : decode cL_fits 140 = .ok (.iaload, 1) := by decide +kernel
theorem dL_fits_141 : decode cL_fits 141 = .ok (.iload 10, 2) := by decide +kernel
theorem dL_fits_143 : decode cL_fits 143 = .ok (.iconst 1, 1) := by decide +kernel
theorem dL_fits_144 : decode cL_fits 144 = .ok (.aload_n 3, 1) := by decide +kernel
theorem dL_fits_145 : decode cL_fits 145 = .ok (.invokestatic 8, 3) := by decide +kernel
end
section
theorem dL_fits_148 : decode cL_fits 148 = .ok (.iload 7, 2) := by decide +kernel
theorem dL_fits_150 : decode cL_fits 150 = .ok (.if_icmp .eq 7, 3) := by decide +kernel
theorem dL_fits_153 : decode cL_fits 153 = .ok (.iconst 5, 1) := by decide +kernel
theorem dL_fits_154 : decode cL_fits 154 = .ok (.goto 33, 3) := by decide +kernel
theorem dL_fits_157 : decode cL_fits 157 = .ok (.aload_n 2, 1) := by decide +kernel
theorem dL_fits_158 : decode cL_fits 158 = .ok (.iconst 2, 1) := by decide +kernel
theorem dL_fits_159 : decode cL_fits 159 = .ok (.iaload, 1) := by decide +kernel
theorem dL_fits_160 : decode cL_fits 160 = .ok (.ifCond .le 8, 3) := by decide +kernel
theorem dL_fits_163 : decode cL_fits 163 = .ok (.iload 6, 2) := by decide +kernel
theorem dL_fits_165 : decode cL_fits 165 = .ok (.ifCond .eq 15, 3) := by decide +kernel
theorem dL_fits_168 : decode cL_fits 168 = .ok (.aload_n 2, 1) := by decide +kernel
theorem dL_fits_169 : decode cL_fits 169 = .ok (.iconst 2, 1) := by decide +kernel
theorem dL_fits_170 : decode cL_fits 170 = .ok (.iaload, 1) := by decide +kernel
theorem dL_fits_171 : decode cL_fits 171 = .ok (.iconst 2, 1) := by decide +kernel
theorem dL_fits_172 : decode cL_fits 172 = .ok (.if_icmp .ne 13, 3) := by decide +kernel
theorem dL_fits_175 : decode cL_fits 175 = .ok (.iload 7, 2) := by decide +kernel
theorem dL_fits_177 : decode cL_fits 177 = .ok (.ifCond .ne 8, 3) := by decide +kernel
theorem dL_fits_180 : decode cL_fits 180 = .ok (.bipush 6, 2) := by decide +kernel
theorem dL_fits_182 : decode cL_fits 182 = .ok (.goto 5, 3) := by decide +kernel
theorem dL_fits_185 : decode cL_fits 185 = .ok (.bipush 9, 2) := by decide +kernel
theorem dL_fits_187 : decode cL_fits 187 = .ok (.istore 9, 2) := by decide +kernel
theorem dL_fits_189 : decode cL_fits 189 = .ok (.iload 9, 2) := by decide +kernel
theorem dL_fits_191 : decode cL_fits 191 = .ok (.iload 4, 2) := by decide +kernel
theorem dL_fits_193 : decode cL_fits 193 = .ok (.if_icmp .ge 8, 3) := by decide +kernel
theorem dL_fits_196 : decode cL_fits 196 = .ok (.iload 9, 2) := by decide +kernel
theorem dL_fits_198 : decode cL_fits 198 = .ok (.goto 5, 3) := by decide +kernel
theorem dL_fits_201 : decode cL_fits 201 = .ok (.iload 4, 2) := by decide +kernel
theorem dL_fits_203 : decode cL_fits 203 = .ok (.istore 4, 2) := by decide +kernel
theorem dL_fits_205 : decode cL_fits 205 = .ok (.iinc 5 1, 3) := by decide +kernel
theorem dL_fits_208 : decode cL_fits 208 = .ok (.goto (-201), 3) := by decide +kernel
theorem dL_fits_211 : decode cL_fits 211 = .ok (.iload 4, 2) := by decide +kernel
theorem dL_fits_213 : decode cL_fits 213 = .ok (.bipush 9, 2) := by decide +kernel
theorem dL_fits_215 : decode cL_fits 215 = .ok (.if_icmp .ne 7, 3) := by decide +kernel
theorem dL_fits_218 : decode cL_fits 218 = .ok (.iconst 0, 1) := by decide +kernel
theorem dL_fits_219 : decode cL_fits 219 = .ok (.goto 5, 3) := by decide +kernel
theorem dL_fits_222 : decode cL_fits 222 = .ok (.iload 4, 2) := by decide +kernel
theorem dL_fits_224 : decode cL_fits 224 = .ok (.ireturn, 1) := by decide +kernel
theorem dL_where_0 : decode cL_where 0 = .ok (.iconst 0, 1) := by decide +kernel
theorem dL_where_1 : decode cL_where 1 = .ok (.istore_n 2, 1) := by decide +kernel
theorem dL_where_2 : decode cL_where 2 = .ok (.iload_n 2, 1) := by decide +kernel
theorem dL_where_3 : decode cL_where 3 = .ok (.aload_n 1, 1) := by decide +kernel
theorem dL_where_4 : decode cL_where 4 = .ok (.iconst 0, 1) := by decide +kernel
theorem dL_where_5 : decode cL_where 5 = .ok (.iaload, 1) := by decide +kernel
theorem dL_where_6 : decode cL_where 6 = .ok (.aload_n 1, 1) := by decide +kernel
theorem dL_where_7 : decode cL_where 7 = .ok (.iconst 1, 1) := by decide +kernel
theorem dL_where_8 : decode cL_where 8 = .ok (.iaload, 1) := by decide +kernel
theorem dL_where_9 : decode cL_where 9 = .ok (.imul, 1) := by decide +kernel
theorem dL_where_10 : decode cL_where 10 = .ok (.if_icmp .ge 31, 3) := by decide +kernel
theorem dL_where_13 : decode cL_where 13 = .ok (.aload_n 1, 1) := by decide +kernel
theorem dL_where_14 : decode cL_where 14 = .ok (.iconst 4, 1) := by decide +kernel
theorem dL_where_15 : decode cL_where 15 = .ok (.iload_n 2, 1) := by decide +kernel
theorem dL_where_16 : decode cL_where 16 = .ok (.iadd, 1) := by decide +kernel
theorem dL_where_17 : decode cL_where 17 = .ok (.iaload, 1) := by decide +kernel
theorem dL_where_18 : decode cL_where 18 = .ok (.ifCond .lt 17, 3) := by decide +kernel
theorem dL_where_21 : decode cL_where 21 = .ok (.aload_n 1, 1) := by decide +kernel
theorem dL_where_22 : decode cL_where 22 = .ok (.iconst 4, 1) := by decide +kernel
theorem dL_where_23 : decode cL_where 23 = .ok (.iload_n 2, 1) := by decide +kernel
theorem dL_where_24 : decode cL_where 24 = .ok (.iadd, 1) := by decide +kernel
theorem dL_where_25 : decode cL_where 25 = .ok (.iaload, 1) := by decide +kernel
theorem dL_where_26 : decode cL_where 26 = .ok (.bipush 8, 2) := by decide +kernel
theorem dL_where_28 : decode cL_where 28 = .ok (.idiv, 1) := by decide +kernel
theorem dL_where_29 : decode cL_where 29 = .ok (.iload_n 0, 1) := by decide +kernel
theorem dL_where_30 : decode cL_where 30 = .ok (.if_icmp .ne 5, 3) := by decide +kernel
theorem dL_where_33 : decode cL_where 33 = .ok (.iload_n 2, 1) := by decide +kernel
theorem dL_where_34 : decode cL_where 34 = .ok (.ireturn, 1) := by decide +kernel
theorem dL_where_35 : decode cL_where 35 = .ok (.iinc 2 1, 3) := by decide +kernel
theorem dL_where_38 : decode cL_where 38 = .ok (.goto (-36), 3) := by decide +kernel
theorem dL_where_41 : decode cL_where 41 = .ok (.iconst (-1), 1) := by decide +kernel
theorem dL_where_42 : decode cL_where 42 = .ok (.ireturn, 1) := by decide +kernel
set_option maxRecDepth 20000 in
theorem ggL_why_L_where : GoodIn wsL_why wsL_where := goodIn_r _ [4] (by decide +kernel) (by decide +kernel)
set_option maxRecDepth 20000 in
theorem gL_why_L_where : GoodIn wsL_why (va_wsS RL 18 yL_where wsL_where) := goodIn_app (goodIn_of _ (by decide +kernel)) ggL_why_L_where
set_option maxRecDepth 20000 in
theorem ggL_why_L_fits : GoodIn wsL_why wsL_fits := goodIn_r _ [7, 8, 9, 3, 10, 11, 12, 13] (by decide +kernel) (by decide +kernel)
set_option maxRecDepth 20000 in
theorem gL_why_L_fits : GoodIn wsL_why (va_wsS RL 22 yL_fits wsL_fits) := goodIn_app (goodIn_of _ (by decide +kernel)) ggL_why_L_fits
theorem dL_why_0 : decode cL_why 0 = .ok (.aload_n 2, 1) := by decide +kernel
theorem dL_why_1 : decode cL_why 1 = .ok (.iconst 4, 1) := by decide +kernel
theorem dL_why_2 : decode cL_why 2 = .ok (.iload_n 0, 1) := by decide +kernel
theorem dL_why_3 : decode cL_why 3 = .ok (.iadd, 1) := by decide +kernel
theorem dL_why_4 : decode cL_why 4 = .ok (.iaload, 1) := by decide +kernel
theorem dL_why_5 : decode cL_why 5 = .ok (.ifCond .lt 7, 3) := by decide +kernel
theorem dL_why_8 : decode cL_why 8 = .ok (.iconst 1, 1) := by decide +kernel
theorem dL_why_9 : decode cL_why 9 = .ok (.goto 25, 3) := by decide +kernel
theorem dL_why_12 : decode cL_why 12 = .ok (.iload_n 1, 1) := by decide +kernel
theorem dL_why_13 : decode cL_why 13 = .ok (.bipush 8, 2) := by decide +kernel
theorem dL_why_15 : decode cL_why 15 = .ok (.idiv, 1) := by decide +kernel
theorem dL_why_16 : decode cL_why 16 = .ok (.aload_n 2, 1) := by decide +kernel
theorem dL_why_17 : decode cL_why 17 = .ok (.invokestatic 18, 3) := by decide +kernel
theorem dL_why_20 : decode cL_why 20 = .ok (.ifCond .lt 7, 3) := by decide +kernel
theorem dL_why_23 : decode cL_why 23 = .ok (.iconst 2, 1) := by decide +kernel
theorem dL_why_24 : decode cL_why 24 = .ok (.goto 10, 3) := by decide +kernel
theorem dL_why_27 : decode cL_why 27 = .ok (.iload_n 0, 1) := by decide +kernel
theorem dL_why_28 : decode cL_why 28 = .ok (.iload_n 1, 1) := by decide +kernel
theorem dL_why_29 : decode cL_why 29 = .ok (.aload_n 2, 1) := by decide +kernel
theorem dL_why_30 : decode cL_why 30 = .ok (.aload_n 3, 1) := by decide +kernel
theorem dL_why_31 : decode cL_why 31 = .ok (.invokestatic 22, 3) := by decide +kernel
theorem dL_why_34 : decode cL_why 34 = .ok (.ireturn, 1) := by decide +kernel
set_option maxRecDepth 20000 in
theorem ggL_search_L_why : GoodIn wsL_search wsL_why := goodIn_r _ [5, 6, 7, 4, 8, 9, 10, 11, 12, 13, 14, 15, 16, 17] (by decide +kernel) (by decide +kernel)
set_option maxRecDepth 20000 in
theorem gL_search_L_why : GoodIn wsL_search (va_wsS RL 26 yL_why wsL_why) := goodIn_app (goodIn_of _ (by decide +kernel)) ggL_search_L_why
theorem dL_search_0 : decode cL_search 0 = .ok (.bipush 12, 2) := by decide +kernel
theorem dL_search_2 : decode cL_search 2 = .ok (.newarray .int, 2) := by decide +kernel
theorem dL_search_4 : decode cL_search 4 = .ok (.astore 4, 2) := by decide +kernel
theorem dL_search_6 : decode cL_search 6 = .ok (.bipush 12, 2) := by decide +kernel
theorem dL_search_8 : decode cL_search 8 = .ok (.newarray .int, 2) := by decide +kernel
theorem dL_search_10 : decode cL_search 10 = .ok (.astore 5, 2) := by decide +kernel
theorem dL_search_12 : decode cL_search 12 = .ok (.iconst 0, 1) := by decide +kernel
theorem dL_search_13 : decode cL_search 13 = .ok (.istore 6, 2) := by decide +kernel
theorem dL_search_15 : decode cL_search 15 = .ok (.iconst 0, 1) := by decide +kernel
theorem dL_search_16 : decode cL_search 16 = .ok (.istore 7, 2) := by decide +kernel
theorem dL_search_18 : decode cL_search 18 = .ok (.iload 7, 2) := by decide +kernel
theorem dL_search_20 : decode cL_search 20 = .ok (.aload_n 1, 1) := by decide +kernel
theorem dL_search_21 : decode cL_search 21 = .ok (.iconst 0, 1) := by decide +kernel
theorem dL_search_22 : decode cL_search 22 = .ok (.iaload, 1) := by decide +kernel
theorem dL_search_23 : decode cL_search 23 = .ok (.aload_n 1, 1) := by decide +kernel
theorem dL_search_24 : decode cL_search 24 = .ok (.iconst 1, 1) := by decide +kernel
theorem dL_search_25 : decode cL_search 25 = .ok (.iaload, 1) := by decide +kernel
theorem dL_search_26 : decode cL_search 26 = .ok (.imul, 1) := by decide +kernel
theorem dL_search_27 : decode cL_search 27 = .ok (.if_icmp .ge 28, 3) := by decide +kernel
theorem dL_search_30 : decode cL_search 30 = .ok (.aload_n 1, 1) := by decide +kernel
theorem dL_search_31 : decode cL_search 31 = .ok (.iconst 4, 1) := by decide +kernel
theorem dL_search_32 : decode cL_search 32 = .ok (.iload 7, 2) := by decide +kernel
theorem dL_search_34 : decode cL_search 34 = .ok (.iadd, 1) := by decide +kernel
theorem dL_search_35 : decode cL_search 35 = .ok (.iaload, 1) := by decide +kernel
theorem dL_search_36 : decode cL_search 36 = .ok (.ifCond .ge 13, 3) := by decide +kernel
theorem dL_search_39 : decode cL_search 39 = .ok (.aload 5, 2) := by decide +kernel
theorem dL_search_41 : decode cL_search 41 = .ok (.iload 6, 2) := by decide +kernel
theorem dL_search_43 : decode cL_search 43 = .ok (.iinc 6 1, 3) := by decide +kernel
theorem dL_search_46 : decode cL_search 46 = .ok (.iload 7, 2) := by decide +kernel
theorem dL_search_48 : decode cL_search 48 = .ok (.iastore, 1) := by decide +kernel
theorem dL_search_49 : decode cL_search 49 = .ok (.iinc 7 1, 3) := by decide +kernel
theorem dL_search_52 : decode cL_search 52 = .ok (.goto (-34), 3) := by decide +kernel
theorem dL_search_55 : decode cL_search 55 = .ok (.aload_n 3, 1) := by decide +kernel
theorem dL_search_56 : decode cL_search 56 = .ok (.iconst 0, 1) := by decide +kernel
theorem dL_search_57 : decode cL_search 57 = .ok (.iload 6, 2) := by decide +kernel
theorem dL_search_59 : decode cL_search 59 = .ok (.ifCond .ne 7, 3) := by decide +kernel
theorem dL_search_62 : decode cL_search 62 = .ok (.iconst 1, 1) := by decide +kernel
theorem dL_search_63 : decode cL_search 63 = .ok (.goto 4, 3) := by decide +kernel
theorem dL_search_66 : decode cL_search 66 = .ok (.iconst 0, 1) := by decide +kernel
theorem dL_search_67 : decode cL_search 67 = .ok (.iastore, 1) := by decide +kernel
theorem dL_search_68 : decode cL_search 68 = .ok (.aload_n 3, 1) := by decide +kernel
theorem dL_search_69 : decode cL_search 69 = .ok (.iconst 1, 1) := by decide +kernel
theorem dL_search_70 : decode cL_search 70 = .ok (.iconst 0, 1) := by decide +kernel
theorem dL_search_71 : decode cL_search 71 = .ok (.iastore, 1) := by decide +kernel
theorem dL_search_72 : decode cL_search 72 = .ok (.aload_n 3, 1) := by decide +kernel
theorem dL_search_73 : decode cL_search 73 = .ok (.iconst 2, 1) := by decide +kernel
theorem dL_search_74 : decode cL_search 74 = .ok (.iconst 0, 1) := by decide +kernel
theorem dL_search_75 : decode cL_search 75 = .ok (.iastore, 1) := by decide +kernel
theorem dL_search_76 : decode cL_search 76 = .ok (.iconst 0, 1) := by decide +kernel
theorem dL_search_77 : decode cL_search 77 = .ok (.istore 7, 2) := by decide +kernel
theorem dL_search_79 : decode cL_search 79 = .ok (.iload 6, 2) := by decide +kernel
theorem dL_search_81 : decode cL_search 81 = .ok (.ifCond .le 196, 3) := by decide +kernel
theorem dL_search_84 : decode cL_search 84 = .ok (.iload 7, 2) := by decide +kernel
theorem dL_search_86 : decode cL_search 86 = .ok (.ifCond .lt 191, 3) := by decide +kernel
theorem dL_search_89 : decode cL_search 89 = .ok (.aload_n 3, 1) := by decide +kernel
theorem dL_search_90 : decode cL_search 90 = .ok (.iconst 0, 1) := by decide +kernel
theorem dL_search_91 : decode cL_search 91 = .ok (.iaload, 1) := by decide +kernel
theorem dL_search_92 : decode cL_search 92 = .ok (.iload_n 0, 1) := by decide +kernel
theorem dL_search_93 : decode cL_search 93 = .ok (.if_icmp .ge 184, 3) := by decide +kernel
theorem dL_search_96 : decode cL_search 96 = .ok (.aload 4, 2) := by decide +kernel
theorem dL_search_98 : decode cL_search 98 = .ok (.iload 7, 2) := by decide +kernel
theorem dL_search_100 : decode cL_search 100 = .ok (.iaload, 1) := by decide +kernel
theorem dL_search_101 : decode cL_search 101 = .ok (.bipush 8, 2) := by decide +kernel
theorem dL_search_103 : decode cL_search 103 = .ok (.aload_n 1, 1) := by decide +kernel
theorem dL_search_104 : decode cL_search 104 = .ok (.iconst 3, 1) := by decide +kernel
theorem dL_search_105 : decode cL_search 105 = .ok (.iaload, 1) := by decide +kernel
theorem dL_search_106 : decode cL_search 106 = .ok (.imul, 1) := by decide +kernel
theorem dL_search_107 : decode cL_search 107 = .ok (.if_icmp .ne 30, 3) := by decide +kernel
theorem dL_search_110 : decode cL_search 110 = .ok (.aload 4, 2) := by decide +kernel
theorem dL_search_112 : decode cL_search 112 = .ok (.iload 7, 2) := by decide +kernel
theorem dL_search_114 : decode cL_search 114 = .ok (.iconst 0, 1) := by decide +kernel
theorem dL_search_115 : decode cL_search 115 = .ok (.iastore, 1) := by decide +kernel
theorem dL_search_116 : decode cL_search 116 = .ok (.iinc 7 (-1), 3) := by decide +kernel
theorem dL_search_119 : decode cL_search 119 = .ok (.iload 7, 2) := by decide +kernel
theorem dL_search_121 : decode cL_search 121 = .ok (.ifCond .lt (-42), 3) := by decide +kernel
theorem dL_search_124 : decode cL_search 124 = .ok (.aload_n 1, 1) := by decide +kernel
theorem dL_search_125 : decode cL_search 125 = .ok (.iconst 4, 1) := by decide +kernel
theorem dL_search_126 : decode cL_search 126 = .ok (.aload 5, 2) := by decide +kernel
theorem dL_search_128 : decode cL_search 128 = .ok (.iload 7, 2) := by decide +kernel
theorem dL_search_130 : decode cL_search 130 = .ok (.iaload, 1) := by decide +kernel
theorem dL_search_131 : decode cL_search 131 = .ok (.iadd, 1) := by decide +kernel
theorem dL_search_132 : decode cL_search 132 = .ok (.iconst (-1), 1) := by decide +kernel
theorem dL_search_133 : decode cL_search 133 = .ok (.iastore, 1) := by decide +kernel
theorem dL_search_134 : decode cL_search 134 = .ok (.goto (-55), 3) := by decide +kernel
theorem dL_search_137 : decode cL_search 137 = .ok (.aload 4, 2) := by decide +kernel
theorem dL_search_139 : decode cL_search 139 = .ok (.iload 7, 2) := by decide +kernel
theorem dL_search_141 : decode cL_search 141 = .ok (.dup2, 1) := by decide +kernel
theorem dL_search_142 : decode cL_search 142 = .ok (.iaload, 1) := by decide +kernel
theorem dL_search_143 : decode cL_search 143 = .ok (.dup_x2, 1) := by decide +kernel
theorem dL_search_144 : decode cL_search 144 = .ok (.iconst 1, 1) := by decide +kernel
theorem dL_search_145 : decode cL_search 145 = .ok (.iadd, 1) := by decide +kernel
theorem dL_search_146 : decode cL_search 146 = .ok (.iastore, 1) := by decide +kernel
theorem dL_search_147 : decode cL_search 147 = .ok (.istore 8, 2) := by decide +kernel
theorem dL_search_149 : decode cL_search 149 = .ok (.aload 5, 2) := by decide +kernel
theorem dL_search_151 : decode cL_search 151 = .ok (.iload 7, 2) := by decide +kernel
theorem dL_search_153 : decode cL_search 153 = .ok (.iaload, 1) := by decide +kernel
theorem dL_search_154 : decode cL_search 154 = .ok (.iload 8, 2) := by decide +kernel
theorem dL_search_156 : decode cL_search 156 = .ok (.aload_n 1, 1) := by decide +kernel
theorem dL_search_157 : decode cL_search 157 = .ok (.aload_n 2, 1) := by decide +kernel
theorem dL_search_158 : decode cL_search 158 = .ok (.invokestatic 26, 3) := by decide +kernel
theorem dL_search_161 : decode cL_search 161 = .ok (.ifCond .le 6, 3) := by decide +kernel
theorem dL_search_164 : decode cL_search 164 = .ok (.goto (-85), 3) := by decide +kernel
theorem dL_search_167 : decode cL_search 167 = .ok (.aload_n 3, 1) := by decide +kernel
theorem dL_search_168 : decode cL_search 168 = .ok (.iconst 1, 1) := by decide +kernel
theorem dL_search_169 : decode cL_search 169 = .ok (.iaload, 1) := by decide +kernel
theorem dL_search_170 : decode cL_search 170 = .ok (.sipush 600, 3) := by decide +kernel
theorem dL_search_173 : decode cL_search 173 = .ok (.if_icmp .ne 10, 3) := by decide +kernel
theorem dL_search_176 : decode cL_search 176 = .ok (.aload_n 3, 1) := by decide +kernel
theorem dL_search_177 : decode cL_search 177 = .ok (.iconst 2, 1) := by decide +kernel
theorem dL_search_178 : decode cL_search 178 = .ok (.iconst 1, 1) := by decide +kernel
theorem dL_search_179 : decode cL_search 179 = .ok (.iastore, 1) := by decide +kernel
theorem dL_search_180 : decode cL_search 180 = .ok (.goto 97, 3) := by decide +kernel
theorem dL_search_183 : decode cL_search 183 = .ok (.aload_n 3, 1) := by decide +kernel
theorem dL_search_184 : decode cL_search 184 = .ok (.iconst 1, 1) := by decide +kernel
theorem dL_search_185 : decode cL_search 185 = .ok (.dup2, 1) := by decide +kernel
theorem dL_search_186 : decode cL_search 186 = .ok (.iaload, 1) := by decide +kernel
theorem dL_search_187 : decode cL_search 187 = .ok (.iconst 1, 1) := by decide +kernel
theorem dL_search_188 : decode cL_search 188 = .ok (.iadd, 1) := by decide +kernel
theorem dL_search_189 : decode cL_search 189 = .ok (.iastore, 1) := by decide +kernel
theorem dL_search_190 : decode cL_search 190 = .ok (.aload_n 1, 1) := by decide +kernel
theorem dL_search_191 : decode cL_search 191 = .ok (.iconst 4, 1) := by decide +kernel
theorem dL_search_192 : decode cL_search 192 = .ok (.aload 5, 2) := by decide +kernel
theorem dL_search_194 : decode cL_search 194 = .ok (.iload 7, 2) := by decide +kernel
theorem dL_search_196 : decode cL_search 196 = .ok (.iaload, 1) := by decide +kernel
theorem dL_search_197 : decode cL_search 197 = .ok (.iadd, 1) := by decide +kernel
theorem dL_search_198 : decode cL_search 198 = .ok (.iload 8, 2) := by decide +kernel
theorem dL_search_200 : decode cL_search 200 = .ok (.iastore, 1) := by decide +kernel
theorem dL_search_201 : decode cL_search 201 = .ok (.iload 7, 2) := by decide +kernel
theorem dL_search_203 : decode cL_search 203 = .ok (.iconst 1, 1) := by decide +kernel
theorem dL_search_204 : decode cL_search 204 = .ok (.iadd, 1) := by decide +kernel
theorem dL_search_205 : decode cL_search 205 = .ok (.iload 6, 2) := by decide +kernel
theorem dL_search_207 : decode cL_search 207 = .ok (.if_icmp .ge 9, 3) := by decide +kernel
theorem dL_search_210 : decode cL_search 210 = .ok (.iinc 7 1, 3) := by decide +kernel
theorem dL_search_213 : decode cL_search 213 = .ok (.goto (-134), 3) := by decide +kernel
theorem dL_search_216 : decode cL_search 216 = .ok (.aload_n 3, 1) := by decide +kernel
theorem dL_search_217 : decode cL_search 217 = .ok (.iconst 0, 1) := by decide +kernel
theorem dL_search_218 : decode cL_search 218 = .ok (.dup2, 1) := by decide +kernel
theorem dL_search_219 : decode cL_search 219 = .ok (.iaload, 1) := by decide +kernel
theorem dL_search_220 : decode cL_search 220 = .ok (.iconst 1, 1) := by decide +kernel
theorem dL_search_221 : decode cL_search 221 = .ok (.iadd, 1) := by decide +kernel
theorem dL_search_222 : decode cL_search 222 = .ok (.iastore, 1) := by decide +kernel
theorem dL_search_223 : decode cL_search 223 = .ok (.aload_n 3, 1) := by decide +kernel
theorem dL_search_224 : decode cL_search 224 = .ok (.iconst 0, 1) := by decide +kernel
theorem dL_search_225 : decode cL_search 225 = .ok (.iaload, 1) := by decide +kernel
theorem dL_search_226 : decode cL_search 226 = .ok (.iconst 1, 1) := by decide +kernel
theorem dL_search_227 : decode cL_search 227 = .ok (.if_icmp .ne 37, 3) := by decide +kernel
theorem dL_search_230 : decode cL_search 230 = .ok (.iconst 0, 1) := by decide +kernel
theorem dL_search_231 : decode cL_search 231 = .ok (.istore 9, 2) := by decide +kernel
theorem dL_search_233 : decode cL_search 233 = .ok (.iload 9, 2) := by decide +kernel
theorem dL_search_235 : decode cL_search 235 = .ok (.iload 6, 2) := by decide +kernel
theorem dL_search_237 : decode cL_search 237 = .ok (.if_icmp .ge 27, 3) := by decide +kernel
theorem dL_search_240 : decode cL_search 240 = .ok (.aload_n 3, 1) := by decide +kernel
theorem dL_search_241 : decode cL_search 241 = .ok (.iconst 3, 1) := by decide +kernel
theorem dL_search_242 : decode cL_search 242 = .ok (.aload 5, 2) := by decide +kernel
theorem dL_search_244 : decode cL_search 244 = .ok (.iload 9, 2) := by decide +kernel
theorem dL_search_246 : decode cL_search 246 = .ok (.iaload, 1) := by decide +kernel
theorem dL_search_247 : decode cL_search 247 = .ok (.iadd, 1) := by decide +kernel
theorem dL_search_248 : decode cL_search 248 = .ok (.aload_n 1, 1) := by decide +kernel
theorem dL_search_249 : decode cL_search 249 = .ok (.iconst 4, 1) := by decide +kernel
theorem dL_search_250 : decode cL_search 250 = .ok (.aload 5, 2) := by decide +kernel
theorem dL_search_252 : decode cL_search 252 = .ok (.iload 9, 2) := by decide +kernel
theorem dL_search_254 : decode cL_search 254 = .ok (.iaload, 1) := by decide +kernel
theorem dL_search_255 : decode cL_search 255 = .ok (.iadd, 1) := by decide +kernel
theorem dL_search_256 : decode cL_search 256 = .ok (.iaload, 1) := by decide +kernel
theorem dL_search_257 : decode cL_search 257 = .ok (.iastore, 1) := by decide +kernel
theorem dL_search_258 : decode cL_search 258 = .ok (.iinc 9 1, 3) := by decide +kernel
theorem dL_search_261 : decode cL_search 261 = .ok (.goto (-28), 3) := by decide +kernel
theorem dL_search_264 : decode cL_search 264 = .ok (.aload_n 1, 1) := by decide +kernel
theorem dL_search_265 : decode cL_search 265 = .ok (.iconst 4, 1) := by decide +kernel
theorem dL_search_266 : decode cL_search 266 = .ok (.aload 5, 2) := by decide +kernel
theorem dL_search_268 : decode cL_search 268 = .ok (.iload 7, 2) := by decide +kernel
theorem dL_search_270 : decode cL_search 270 = .ok (.iaload, 1) := by decide +kernel
theorem dL_search_271 : decode cL_search 271 = .ok (.iadd, 1) := by decide +kernel
theorem dL_search_272 : decode cL_search 272 = .ok (.iconst (-1), 1) := by decide +kernel
theorem dL_search_273 : decode cL_search 273 = .ok (.iastore, 1) := by decide +kernel
theorem dL_search_274 : decode cL_search 274 = .ok (.goto (-195), 3) := by decide +kernel
theorem dL_search_277 : decode cL_search 277 = .ok (.iconst 0, 1) := by decide +kernel
theorem dL_search_278 : decode cL_search 278 = .ok (.istore 8, 2) := by decide +kernel
theorem dL_search_280 : decode cL_search 280 = .ok (.iload 8, 2) := by decide +kernel
theorem dL_search_282 : decode cL_search 282 = .ok (.iload 6, 2) := by decide +kernel
theorem dL_search_284 : decode cL_search 284 = .ok (.if_icmp .ge 19, 3) := by decide +kernel
theorem dL_search_287 : decode cL_search 287 = .ok (.aload_n 1, 1) := by decide +kernel
theorem dL_search_288 : decode cL_search 288 = .ok (.iconst 4, 1) := by decide +kernel
theorem dL_search_289 : decode cL_search 289 = .ok (.aload 5, 2) := by decide +kernel
theorem dL_search_291 : decode cL_search 291 = .ok (.iload 8, 2) := by decide +kernel
theorem dL_search_293 : decode cL_search 293 = .ok (.iaload, 1) := by decide +kernel
theorem dL_search_294 : decode cL_search 294 = .ok (.iadd, 1) := by decide +kernel
theorem dL_search_295 : decode cL_search 295 = .ok (.iconst (-1), 1) := by decide +kernel
theorem dL_search_296 : decode cL_search 296 = .ok (.iastore, 1) := by decide +kernel
theorem dL_search_297 : decode cL_search 297 = .ok (.iinc 8 1, 3) := by decide +kernel
theorem dL_search_300 : decode cL_search 300 = .ok (.goto (-20), 3) := by decide +kernel
theorem dL_search_303 : decode cL_search 303 = .ok (.return_, 1) := by decide +kernel
set_option maxRecDepth 20000 in
theorem ggL_cut_L_beyond : GoodIn wsL_cut wsL_beyond := goodIn_r _ [4] (by decide +kernel) (by decide +kernel)
set_option maxRecDepth 20000 in
theorem gL_cut_L_beyond : GoodIn wsL_cut (va_wsS RL 14 yL_beyond wsL_beyond) := goodIn_app (goodIn_of _ (by decide +kernel)) ggL_cut_L_beyond
theorem dL_cut_0 : decode cL_cut 0 = .ok (.iload_n 0, 1) := by decide +kernel
theorem dL_cut_1 : decode cL_cut 1 = .ok (.istore 4, 2) := by decide +kernel
theorem dL_cut_3 : decode cL_cut 3 = .ok (.aload_n 2, 1) := by decide +kernel
theorem dL_cut_4 : decode cL_cut 4 = .ok (.iconst 0, 1) := by decide +kernel
theorem dL_cut_5 : decode cL_cut 5 = .ok (.iaload, 1) := by decide +kernel
theorem dL_cut_6 : decode cL_cut 6 = .ok (.aload_n 2, 1) := by decide +kernel
theorem dL_cut_7 : decode cL_cut 7 = .ok (.iconst 1, 1) := by decide +kernel
theorem dL_cut_8 : decode cL_cut 8 = .ok (.iaload, 1) := by decide +kernel
theorem dL_cut_9 : decode cL_cut 9 = .ok (.imul, 1) := by decide +kernel
theorem dL_cut_10 : decode cL_cut 10 = .ok (.istore 5, 2) := by decide +kernel
theorem dL_cut_12 : decode cL_cut 12 = .ok (.iconst 0, 1) := by decide +kernel
theorem dL_cut_13 : decode cL_cut 13 = .ok (.istore 6, 2) := by decide +kernel
theorem dL_cut_15 : decode cL_cut 15 = .ok (.iload 6, 2) := by decide +kernel
theorem dL_cut_17 : decode cL_cut 17 = .ok (.bipush 48, 2) := by decide +kernel
theorem dL_cut_19 : decode cL_cut 19 = .ok (.if_icmp .ge 14, 3) := by decide +kernel
theorem dL_cut_22 : decode cL_cut 22 = .ok (.aload_n 3, 1) := by decide +kernel
theorem dL_cut_23 : decode cL_cut 23 = .ok (.iload 6, 2) := by decide +kernel
theorem dL_cut_25 : decode cL_cut 25 = .ok (.iconst 0, 1) := by decide +kernel
theorem dL_cut_26 : decode cL_cut 26 = .ok (.iastore, 1) := by decide +kernel
theorem dL_cut_27 : decode cL_cut 27 = .ok (.iinc 6 1, 3) := by decide +kernel
theorem dL_cut_30 : decode cL_cut 30 = .ok (.goto (-15), 3) := by decide +kernel
theorem dL_cut_33 : decode cL_cut 33 = .ok (.iconst 0, 1) := by decide +kernel
theorem dL_cut_34 : decode cL_cut 34 = .ok (.istore 6, 2) := by decide +kernel
theorem dL_cut_36 : decode cL_cut 36 = .ok (.iload 6, 2) := by decide +kernel
theorem dL_cut_38 : decode cL_cut 38 = .ok (.iload 5, 2) := by decide +kernel
theorem dL_cut_40 : decode cL_cut 40 = .ok (.if_icmp .ge 188, 3) := by decide +kernel
theorem dL_cut_43 : decode cL_cut 43 = .ok (.aload_n 2, 1) := by decide +kernel
theorem dL_cut_44 : decode cL_cut 44 = .ok (.iconst 4, 1) := by decide +kernel
theorem dL_cut_45 : decode cL_cut 45 = .ok (.iload 6, 2) := by decide +kernel
theorem dL_cut_47 : decode cL_cut 47 = .ok (.iadd, 1) := by decide +kernel
theorem dL_cut_48 : decode cL_cut 48 = .ok (.iconst (-1), 1) := by decide +kernel
theorem dL_cut_49 : decode cL_cut 49 = .ok (.iastore, 1) := by decide +kernel
theorem dL_cut_50 : decode cL_cut 50 = .ok (.aload_n 2, 1) := by decide +kernel
theorem dL_cut_51 : decode cL_cut 51 = .ok (.bipush 16, 2) := by decide +kernel
theorem dL_cut_53 : decode cL_cut 53 = .ok (.iload 6, 2) := by decide +kernel
theorem dL_cut_55 : decode cL_cut 55 = .ok (.iadd, 1) := by decide +kernel
theorem dL_cut_56 : decode cL_cut 56 = .ok (.iconst 0, 1) := by decide +kernel
theorem dL_cut_57 : decode cL_cut 57 = .ok (.iastore, 1) := by decide +kernel
theorem dL_cut_58 : decode cL_cut 58 = .ok (.iconst 0, 1) := by decide +kernel
theorem dL_cut_59 : decode cL_cut 59 = .ok (.istore 7, 2) := by decide +kernel
theorem dL_cut_61 : decode cL_cut 61 = .ok (.iload 7, 2) := by decide +kernel
theorem dL_cut_63 : decode cL_cut 63 = .ok (.iconst 4, 1) := by decide +kernel
theorem dL_cut_64 : decode cL_cut 64 = .ok (.if_icmp .ge 158, 3) := by decide +kernel
theorem dL_cut_67 : decode cL_cut 67 = .ok (.iload 7, 2) := by decide +kernel
theorem dL_cut_69 : decode cL_cut 69 = .ok (.iconst 2, 1) := by decide +kernel
theorem dL_cut_70 : decode cL_cut 70 = .ok (.if_icmp .ge 7, 3) := by decide +kernel
theorem dL_cut_73 : decode cL_cut 73 = .ok (.iconst 1, 1) := by decide +kernel
theorem dL_cut_74 : decode cL_cut 74 = .ok (.goto 4, 3) := by decide +kernel
theorem dL_cut_77 : decode cL_cut 77 = .ok (.iconst 2, 1) := by decide +kernel
theorem dL_cut_78 : decode cL_cut 78 = .ok (.istore 8, 2) := by decide +kernel
theorem dL_cut_80 : decode cL_cut 80 = .ok (.iload 6, 2) := by decide +kernel
theorem dL_cut_82 : decode cL_cut 82 = .ok (.iload 8, 2) := by decide +kernel
theorem dL_cut_84 : decode cL_cut 84 = .ok (.aload_n 2, 1) := by decide +kernel
theorem dL_cut_85 : decode cL_cut 85 = .ok (.invokestatic 14, 3) := by decide +kernel
theorem dL_cut_88 : decode cL_cut 88 = .ok (.istore 9, 2) := by decide +kernel
theorem dL_cut_90 : decode cL_cut 90 = .ok (.iload 9, 2) := by decide +kernel
theorem dL_cut_92 : decode cL_cut 92 = .ok (.ifCond .ge 6, 3) := by decide +kernel
theorem dL_cut_95 : decode cL_cut 95 = .ok (.goto 121, 3) := by decide +kernel
theorem dL_cut_98 : decode cL_cut 98 = .ok (.iconst 1, 1) := by decide +kernel
theorem dL_cut_99 : decode cL_cut 99 = .ok (.iload 4, 2) := by decide +kernel
theorem dL_cut_101 : decode cL_cut 101 = .ok (.bipush 10, 2) := by decide +kernel
theorem dL_cut_103 : decode cL_cut 103 = .ok (.irem, 1) := by decide +kernel
theorem dL_cut_104 : decode cL_cut 104 = .ok (.iload_n 1, 1) := by decide +kernel
theorem dL_cut_105 : decode cL_cut 105 = .ok (.irem, 1) := by decide +kernel
theorem dL_cut_106 : decode cL_cut 106 = .ok (.iadd, 1) := by decide +kernel
theorem dL_cut_107 : decode cL_cut 107 = .ok (.istore 10, 2) := by decide +kernel
theorem dL_cut_109 : decode cL_cut 109 = .ok (.iload 4, 2) := by decide +kernel
theorem dL_cut_111 : decode cL_cut 111 = .ok (.bipush 10, 2) := by decide +kernel
theorem dL_cut_113 : decode cL_cut 113 = .ok (.if_icmp .ge 7, 3) := by decide +kernel
theorem dL_cut_116 : decode cL_cut 116 = .ok (.iload_n 0, 1) := by decide +kernel
theorem dL_cut_117 : decode cL_cut 117 = .ok (.goto 8, 3) := by decide +kernel
theorem dL_cut_120 : decode cL_cut 120 = .ok (.iload 4, 2) := by decide +kernel
theorem dL_cut_122 : decode cL_cut 122 = .ok (.bipush 10, 2) := by decide +kernel
theorem dL_cut_124 : decode cL_cut 124 = .ok (.idiv, 1) := by decide +kernel
theorem dL_cut_125 : decode cL_cut 125 = .ok (.istore 4, 2) := by decide +kernel
theorem dL_cut_127 : decode cL_cut 127 = .ok (.iload 7, 2) := by decide +kernel
theorem dL_cut_129 : decode cL_cut 129 = .ok (.iconst 2, 1) := by decide +kernel
theorem dL_cut_130 : decode cL_cut 130 = .ok (.irem, 1) := by decide +kernel
theorem dL_cut_131 : decode cL_cut 131 = .ok (.ifCond .ne 39, 3) := by decide +kernel
theorem dL_cut_134 : decode cL_cut 134 = .ok (.aload_n 3, 1) := by decide +kernel
theorem dL_cut_135 : decode cL_cut 135 = .ok (.bipush 8, 2) := by decide +kernel
theorem dL_cut_137 : decode cL_cut 137 = .ok (.iload 6, 2) := by decide +kernel
theorem dL_cut_139 : decode cL_cut 139 = .ok (.imul, 1) := by decide +kernel
theorem dL_cut_140 : decode cL_cut 140 = .ok (.iload 8, 2) := by decide +kernel
theorem dL_cut_142 : decode cL_cut 142 = .ok (.iadd, 1) := by decide +kernel
theorem dL_cut_143 : decode cL_cut 143 = .ok (.iload 10, 2) := by decide +kernel
theorem dL_cut_145 : decode cL_cut 145 = .ok (.iastore, 1) := by decide +kernel
theorem dL_cut_146 : decode cL_cut 146 = .ok (.aload_n 3, 1) := by decide +kernel
theorem dL_cut_147 : decode cL_cut 147 = .ok (.bipush 8, 2) := by decide +kernel
theorem dL_cut_149 : decode cL_cut 149 = .ok (.iload 9, 2) := by decide +kernel
theorem dL_cut_151 : decode cL_cut 151 = .ok (.imul, 1) := by decide +kernel
theorem dL_cut_152 : decode cL_cut 152 = .ok (.iload 8, 2) := by decide +kernel
theorem dL_cut_154 : decode cL_cut 154 = .ok (.iconst 1, 1) := by decide +kernel
theorem dL_cut_155 : decode cL_cut 155 = .ok (.if_icmp .ne 7, 3) := by decide +kernel
theorem dL_cut_158 : decode cL_cut 158 = .ok (.iconst 3, 1) := by decide +kernel
theorem dL_cut_159 : decode cL_cut 159 = .ok (.goto 4, 3) := by decide +kernel
theorem dL_cut_162 : decode cL_cut 162 = .ok (.iconst 0, 1) := by decide +kernel
theorem dL_cut_163 : decode cL_cut 163 = .ok (.iadd, 1) := by decide +kernel
theorem dL_cut_164 : decode cL_cut 164 = .ok (.iload 10, 2) := by decide +kernel
theorem dL_cut_166 : decode cL_cut 166 = .ok (.iastore, 1) := by decide +kernel
theorem dL_cut_167 : decode cL_cut 167 = .ok (.goto 49, 3) := by decide +kernel
theorem dL_cut_170 : decode cL_cut 170 = .ok (.aload_n 3, 1) := by decide +kernel
theorem dL_cut_171 : decode cL_cut 171 = .ok (.bipush 8, 2) := by decide +kernel
theorem dL_cut_173 : decode cL_cut 173 = .ok (.iload 6, 2) := by decide +kernel
theorem dL_cut_175 : decode cL_cut 175 = .ok (.imul, 1) := by decide +kernel
theorem dL_cut_176 : decode cL_cut 176 = .ok (.iconst 4, 1) := by decide +kernel
theorem dL_cut_177 : decode cL_cut 177 = .ok (.iadd, 1) := by decide +kernel
theorem dL_cut_178 : decode cL_cut 178 = .ok (.iload 8, 2) := by decide +kernel
theorem dL_cut_180 : decode cL_cut 180 = .ok (.iconst 1, 1) := by decide +kernel
theorem dL_cut_181 : decode cL_cut 181 = .ok (.if_icmp .ne 7, 3) := by decide +kernel
theorem dL_cut_184 : decode cL_cut 184 = .ok (.iconst 3, 1) := by decide +kernel
theorem dL_cut_185 : decode cL_cut 185 = .ok (.goto 4, 3) := by decide +kernel
theorem dL_cut_188 : decode cL_cut 188 = .ok (.iconst 2, 1) := by decide +kernel
theorem dL_cut_189 : decode cL_cut 189 = .ok (.iadd, 1) := by decide +kernel
theorem dL_cut_190 : decode cL_cut 190 = .ok (.iload 10, 2) := by decide +kernel
theorem dL_cut_192 : decode cL_cut 192 = .ok (.iastore, 1) := by decide +kernel
theorem dL_cut_193 : decode cL_cut 193 = .ok (.aload_n 3, 1) := by decide +kernel
theorem dL_cut_194 : decode cL_cut 194 = .ok (.bipush 8, 2) := by decide +kernel
theorem dL_cut_196 : decode cL_cut 196 = .ok (.iload 9, 2) := by decide +kernel
theorem dL_cut_198 : decode cL_cut 198 = .ok (.imul, 1) := by decide +kernel
theorem dL_cut_199 : decode cL_cut 199 = .ok (.iconst 4, 1) := by decide +kernel
theorem dL_cut_200 : decode cL_cut 200 = .ok (.iadd, 1) := by decide +kernel
theorem dL_cut_201 : decode cL_cut 201 = .ok (.iload 8, 2) := by decide +kernel
theorem dL_cut_203 : decode cL_cut 203 = .ok (.iconst 1, 1) := by decide +kernel
theorem dL_cut_204 : decode cL_cut 204 = .ok (.if_icmp .ne 7, 3) := by decide +kernel
theorem dL_cut_207 : decode cL_cut 207 = .ok (.iconst 1, 1) := by decide +kernel
theorem dL_cut_208 : decode cL_cut 208 = .ok (.goto 4, 3) := by decide +kernel
theorem dL_cut_211 : decode cL_cut 211 = .ok (.iconst 0, 1) := by decide +kernel
theorem dL_cut_212 : decode cL_cut 212 = .ok (.iadd, 1) := by decide +kernel
theorem dL_cut_213 : decode cL_cut 213 = .ok (.iload 10, 2) := by decide +kernel
theorem dL_cut_215 : decode cL_cut 215 = .ok (.iastore, 1) := by decide +kernel
theorem dL_cut_216 : decode cL_cut 216 = .ok (.iinc 7 1, 3) := by decide +kernel
theorem dL_cut_219 : decode cL_cut 219 = .ok (.goto (-158), 3) := by decide +kernel
theorem dL_cut_222 : decode cL_cut 222 = .ok (.iinc 6 1, 3) := by decide +kernel
theorem dL_cut_225 : decode cL_cut 225 = .ok (.goto (-189), 3) := by decide +kernel
theorem dL_cut_228 : decode cL_cut 228 = .ok (.aload_n 2, 1) := by decide +kernel
theorem dL_cut_229 : decode cL_cut 229 = .ok (.iconst 3, 1) := by decide +kernel
theorem dL_cut_230 : decode cL_cut 230 = .ok (.iload 5, 2) := by decide +kernel
theorem dL_cut_232 : decode cL_cut 232 = .ok (.iastore, 1) := by decide +kernel
theorem dL_cut_233 : decode cL_cut 233 = .ok (.return_, 1) := by decide +kernel
abbrev vwCl : List vw_C := [(RX0, TX0, 8), (RX1, TX1, 3), (RX2, TX2, 3), (RX3, TX3, 4), (RX4, TX4, 7), (RX5, TX5, 2), (RX6, TX6, 6)]
end
section
set_option maxRecDepth 20000 in
theorem ggL_told_L_why : GoodIn wsL_told wsL_why := goodIn_r _ [5, 6, 7, 4, 8, 9, 10, 11, 12, 13, 14, 15, 16, 17] (by decide +kernel) (by decide +kernel)
set_option maxRecDepth 20000 in
theorem gL_told_L_why : GoodIn wsL_told (va_wsS RL 26 yL_why wsL_why) := goodIn_app (goodIn_of _ (by decide +kernel)) ggL_told_L_why
set_option maxRecDepth 20000 in
theorem ggL_told_X6_cell : GoodIn wsL_told wsX6_cell := goodIn_ca (goodIn_ca (goodIn_r _ [22, 23, 24, 25, 26, 27, 21, 28, 29, 30, 31, 32, 33, 34, 35, 36, 37, 38, 39, 40, 41, 42, 43, 44, 45, 46, 47, 48, 49, 50, 51, 52, 53, 54, 55, 56, 57, 58, 59, 60, 61, 62, 63, 64, 65, 66, 67, 68, 69, 70, 71, 72, 73, 74, 75, 76, 77, 78, 79, 80, 81, 82, 83, 84, 85, 86, 87, 88, 89, 90, 91, 92, 93, 94, 95, 96, 97, 98, 99, 100, 101, 102, 103, 104, 105, 106, 107, 108, 109, 110, 111, 112, 113, 114, 115, 116, 282, 283, 284, 285, 286, 287, 288, 289, 290, 291, 292, 293, 294, 295, 296, 297, 298, 299] (by decide +kernel) (by decide +kernel)) (goodIn_sub (fun _ h => List.mem_cons_of_mem _ (List.mem_append_left _ (List.mem_append_right _ h))) (by decide +kernel))) (goodIn_sub (fun _ h => List.mem_cons_of_mem _ (List.mem_append_right _ h)) (by decide +kernel))
set_option maxRecDepth 20000 in
theorem gL_told_X6_cell : GoodIn wsL_told (wsV RL 29 RX6 yX6_cell wsX6_cell) := goodIn_app (goodIn_of _ (by decide +kernel)) ggL_told_X6_cell
set_option maxRecDepth 20000 in
theorem ggL_told_L_fits : GoodIn wsL_told wsL_fits := goodIn_r _ [11, 12, 13, 4, 14, 15, 16, 17] (by decide +kernel) (by decide +kernel)
set_option maxRecDepth 20000 in
theorem gL_told_L_fits : GoodIn wsL_told (va_wsS RL 22 yL_fits wsL_fits) := goodIn_app (goodIn_of _ (by decide +kernel)) ggL_told_L_fits
set_option maxRecDepth 20000 in
theorem ggL_told_L_beyond : GoodIn wsL_told wsL_beyond := goodIn_r _ [17] (by decide +kernel) (by decide +kernel)
set_option maxRecDepth 20000 in
theorem gL_told_L_beyond : GoodIn wsL_told (va_wsS RL 14 yL_beyond wsL_beyond) := goodIn_app (goodIn_of _ (by decide +kernel)) ggL_told_L_beyond
set_option maxRecDepth 20000 in
theorem ggL_told_X6_color : GoodIn wsL_told wsX6_color := goodIn_ca (goodIn_r _ [120, 29, 30, 25, 26, 27, 21, 28, 31, 32, 33, 34, 35, 36, 37, 38, 39, 40, 41, 42, 121, 122, 123, 124, 59, 60, 61, 62, 63, 125, 84, 85, 86, 87, 126, 90, 91, 92, 282, 283, 284, 285, 286, 287, 288, 289, 290, 291, 292, 293, 294, 295] (by decide +kernel) (by decide +kernel)) (goodIn_sub (fun _ h => List.mem_cons_of_mem _ (List.mem_append_right _ h)) (by decide +kernel))
set_option maxRecDepth 20000 in
theorem gL_told_X6_color : GoodIn wsL_told (wsV RL 35 RX6 yX6_color wsX6_color) := goodIn_app (goodIn_of _ (by decide +kernel)) ggL_told_X6_color
set_option maxRecDepth 20000 in
theorem ggL_told_L_color : GoodIn wsL_told wsL_color := goodIn_r _ [14] (by decide +kernel) (by decide +kernel)
set_option maxRecDepth 20000 in
theorem gL_told_L_color : GoodIn wsL_told (va_wsS RL 8 yL_color wsL_color) := goodIn_app (goodIn_of _ (by decide +kernel)) ggL_told_L_color
set_option maxRecDepth 20000 in
theorem ggL_told_X6_tile : GoodIn wsL_told wsX6_tile := goodIn_ca (goodIn_ca (goodIn_r _ [130, 29, 30, 23, 24, 31, 58, 131, 132, 133, 21, 134, 135, 136, 137, 138, 35, 139, 87, 90, 91, 92, 140, 141, 142, 143, 282, 283, 284, 285, 286, 287, 288, 289, 290, 291, 292, 293, 294, 295] (by decide +kernel) (by decide +kernel)) (goodIn_sub (fun _ h => List.mem_cons_of_mem _ (List.mem_append_right _ h)) (by decide +kernel))) (goodIn_sub (fun _ h => List.mem_cons_of_mem _ (List.mem_append_left _ (List.mem_append_right _ h))) (by decide +kernel))
set_option maxRecDepth 20000 in
theorem gL_told_X6_tile : GoodIn wsL_told (wsV RL 38 RX6 yX6_tile wsX6_tile) := goodIn_app (goodIn_of _ (by decide +kernel)) ggL_told_X6_tile
set_option maxRecDepth 20000 in
theorem ggL_told_L_where : GoodIn wsL_told wsL_where := goodIn_r _ [8] (by decide +kernel) (by decide +kernel)
set_option maxRecDepth 20000 in
theorem gL_told_L_where : GoodIn wsL_told (va_wsS RL 18 yL_where wsL_where) := goodIn_app (goodIn_of _ (by decide +kernel)) ggL_told_L_where
set_option maxRecDepth 20000 in
theorem ggL_told_L_at : GoodIn wsL_told wsL_at := goodIn_r _ [146] (by decide +kernel) (by decide +kernel)
end
section
set_option maxRecDepth 20000 in
theorem gL_told_L_at : GoodIn wsL_told (va_wsS RL 41 yL_at wsL_at) := goodIn_app (goodIn_of _ (by decide +kernel)) ggL_told_L_at
set_option maxRecDepth 20000 in
theorem ggL_told_X6_why : GoodIn wsL_told wsX6_why := goodIn_ca (goodIn_r _ [150, 151, 152, 153, 21, 154, 29, 30, 31, 25, 26, 27, 28, 32, 33, 34, 35, 36, 37, 38, 39, 40, 41, 42, 155, 156, 157, 158, 159, 160, 161, 162, 163, 57, 102, 59, 60, 61, 62, 63, 103, 104, 105, 106, 107, 64, 65, 66, 67, 68, 69, 70, 71, 72, 73, 74, 75, 76, 77, 78, 79, 80, 81, 82, 83, 84, 85, 86, 87, 88, 89, 90, 91, 92, 93, 94, 95, 96, 97, 108, 109, 110, 111, 112, 282, 283, 284, 285, 286, 287, 288, 289, 290, 291, 292, 293, 294, 295, 296, 297, 298, 299] (by decide +kernel) (by decide +kernel)) (goodIn_sub (fun _ h => List.mem_cons_of_mem _ (List.mem_append_right _ h)) (by decide +kernel))
set_option maxRecDepth 20000 in
theorem gL_told_X6_why : GoodIn wsL_told (wsV RL 44 RX6 yX6_why wsX6_why) := goodIn_app (goodIn_of _ (by decide +kernel)) ggL_told_X6_why
set_option maxRecDepth 20000 in
theorem ggL_told_L_search : GoodIn wsL_told wsL_search := goodIn_r _ [166, 1, 2, 3, 4, 5, 6, 7, 8, 9, 10, 11, 12, 13, 14, 15, 16, 17] (by decide +kernel) (by decide +kernel)
set_option maxRecDepth 20000 in
theorem gL_told_L_search : GoodIn wsL_told (va_wsS RL 46 yL_search wsL_search) := goodIn_app (goodIn_of _ (by decide +kernel)) ggL_told_L_search
set_option maxRecDepth 20000 in
theorem ggL_told_X6_layings : GoodIn wsL_told wsX6_layings := goodIn_ca (goodIn_r _ [170, 23, 24, 171, 31, 172, 173, 174, 175, 176, 177, 178, 179, 180, 35, 181, 41, 42, 182, 159, 52, 63, 183, 184, 185, 186, 107, 87, 187, 188, 189, 190, 191, 192, 193, 194, 195, 196, 197, 198, 199, 200, 201, 202, 203, 38, 39, 40, 204, 60, 61, 62, 205, 65, 66, 67, 68, 69, 70, 71, 72, 73, 74, 75, 76, 77, 78, 79, 80, 81, 37, 82, 83, 84, 85, 86, 88, 21, 89, 90, 91, 92, 93, 94, 95, 96, 97, 206, 104, 105, 106, 207, 109, 110, 111, 112, 208, 209, 210, 211, 212, 213, 214, 215, 216, 217, 218, 219, 220, 221, 222, 223, 282, 283, 284, 285, 286, 287, 300, 301, 302, 303, 304, 305, 306, 288, 289, 290, 291, 292, 293, 294, 295, 296, 297, 298, 299] (by decide +kernel) (by decide +kernel)) (goodIn_sub (fun _ h => List.mem_cons_of_mem _ (List.mem_append_left _ (List.mem_append_right _ h))) (by decide +kernel))
set_option maxRecDepth 20000 in
theorem gL_told_X6_layings : GoodIn wsL_told (wsV RL 50 RX6 yX6_layings wsX6_layings) := goodIn_app (goodIn_of _ (by decide +kernel)) ggL_told_X6_layings
set_option maxRecDepth 20000 in
theorem ggL_told_X6_fitting : GoodIn wsL_told wsX6_fitting := goodIn_r _ [227, 228, 229, 230, 21, 231, 31, 232, 233, 234, 235, 35, 236, 37, 38, 39, 40, 41, 42, 237, 238, 239, 240, 241, 79, 80, 81, 242, 60, 61, 62, 63, 243, 84, 85, 86, 87, 90, 91, 92, 88, 89, 282, 283, 284, 285, 286, 287, 288, 289, 290, 291, 292, 293, 294, 295] (by decide +kernel) (by decide +kernel)
set_option maxRecDepth 20000 in
theorem gL_told_X6_fitting : GoodIn wsL_told (wsV RL 53 RX6 yX6_fitting wsX6_fitting) := goodIn_app (goodIn_of _ (by decide +kernel)) ggL_told_X6_fitting
set_option maxRecDepth 20000 in
theorem ggL_told_X6_hint : GoodIn wsL_told wsX6_hint := goodIn_r _ [247, 248, 249, 250, 21, 251, 31, 252, 38, 39, 35, 40, 41, 42, 53, 54, 55, 56, 57, 58, 59, 60, 61, 62, 63, 64, 65, 66, 67, 68, 69, 70, 71, 72, 73, 74, 75, 76, 77, 78, 79, 80, 81, 37, 82, 83, 84, 85, 86, 87, 88, 89, 90, 91, 92, 93, 94, 95, 96, 97, 98, 99, 100, 101, 102, 103, 104, 105, 106, 107, 108, 109, 110, 111, 112, 113, 114, 115, 116, 282, 283, 284, 285, 286, 287, 288, 289, 290, 291, 292, 293, 294, 295, 296, 297, 298, 299] (by decide +kernel) (by decide +kernel)
set_option maxRecDepth 20000 in
theorem gL_told_X6_hint : GoodIn wsL_told (wsV RL 57 RX6 yX6_hint wsX6_hint) := goodIn_app (goodIn_of _ (by decide +kernel)) ggL_told_X6_hint
set_option maxRecDepth 20000 in
theorem ggL_told_X6_count : GoodIn wsL_told wsX6_count := goodIn_ca (goodIn_r _ [256, 23, 24, 257, 258, 259, 21, 260, 31, 261, 262, 58, 263, 264, 232, 265, 266, 267, 268, 269, 35, 270, 37, 38, 39, 40, 41, 42, 242, 60, 61, 62, 63, 271, 272, 273, 274, 275, 276, 277, 233, 234, 235, 236, 237, 238, 239, 240, 241, 79, 80, 81, 243, 84, 85, 86, 87, 90, 91, 92, 88, 89, 278, 279, 280, 281, 57, 252, 59, 64, 65, 66, 67, 68, 69, 70, 71, 72, 73, 74, 75, 76, 77, 78, 82, 83, 93, 94, 95, 96, 97, 125, 108, 109, 110, 111, 112, 282, 283, 284, 285, 286, 287, 288, 289, 290, 291, 292, 293, 294, 295, 307, 308, 309, 296, 297, 298, 299] (by decide +kernel) (by decide +kernel)) (goodIn_sub (fun _ h => List.mem_cons_of_mem _ (List.mem_append_left _ (List.mem_append_right _ h))) (by decide +kernel))
set_option maxRecDepth 20000 in
theorem gL_told_X6_count : GoodIn wsL_told (wsV RL 61 RX6 yX6_count wsX6_count) := goodIn_app (goodIn_of _ (by decide +kernel)) ggL_told_X6_count
set_option maxRecDepth 20000 in
theorem ggL_act_L_at : GoodIn wsL_act wsL_at := goodIn_r _ [6] (by decide +kernel) (by decide +kernel)
set_option maxRecDepth 20000 in
theorem gL_act_L_at : GoodIn wsL_act (va_wsS RL 41 yL_at wsL_at) := goodIn_app (goodIn_of _ (by decide +kernel)) ggL_act_L_at
set_option maxRecDepth 20000 in
theorem ggL_act_X6_begin : GoodIn wsL_act wsX6_begin := goodIn_ca (goodIn_r _ [11, 12, 13, 14, 15, 16, 17, 18, 19, 20, 21, 22, 23, 24, 25, 26, 27, 28, 29, 30, 31, 32, 33, 34, 35, 36, 37, 38, 39, 40, 41, 42, 43, 44, 45, 46, 47, 48, 303, 304, 305, 306, 307, 308, 309, 310, 311, 312, 313, 314, 315, 316, 317, 318, 319] (by decide +kernel) (by decide +kernel)) (goodIn_sub (fun _ h => List.mem_cons_of_mem _ (List.mem_append_left _ (List.mem_append_left _ (List.mem_append_right _ h)))) (by decide +kernel))
set_option maxRecDepth 20000 in
theorem gL_act_X6_begin : GoodIn wsL_act (wsV RL 65 RX6 yX6_begin wsX6_begin) := goodIn_app (goodIn_of _ (by decide +kernel)) ggL_act_X6_begin
end
section
set_option maxRecDepth 20000 in
theorem ggL_act_L_cut : GoodIn wsL_act wsL_cut := goodIn_r _ [51, 52, 53, 5, 54] (by decide +kernel) (by decide +kernel)
set_option maxRecDepth 20000 in
theorem gL_act_L_cut : GoodIn wsL_act (va_wsS RL 69 yL_cut wsL_cut) := goodIn_app (goodIn_of _ (by decide +kernel)) ggL_act_L_cut
set_option maxRecDepth 20000 in
theorem ggL_act_X6_cut : GoodIn wsL_act wsX6_cut := goodIn_ca (goodIn_r _ [58, 12, 13, 59, 14, 15, 60, 61, 62, 63, 16, 17, 18, 19, 20, 21, 22, 23, 24, 25, 26, 27, 28, 29, 30, 31, 32, 33, 34, 35, 36, 37, 38, 39, 40, 41, 42, 43, 44, 64, 65, 66, 67, 68, 69, 70, 71, 72, 73, 74, 75, 76, 46, 47, 48, 77, 78, 79, 80, 81, 82, 83, 84, 85, 86, 87, 88, 89, 10, 90, 91, 92, 93, 94, 95, 96, 97, 98, 99, 100, 101, 102, 103, 104, 105, 303, 304, 305, 306, 307, 308, 312, 313, 314, 315, 316, 317, 318, 319, 309, 310, 311, 320, 321, 322] (by decide +kernel) (by decide +kernel)) (goodIn_sub (fun _ h => List.mem_cons_of_mem _ (List.mem_append_left _ (List.mem_append_left _ (List.mem_append_right _ h)))) (by decide +kernel))
set_option maxRecDepth 20000 in
theorem gL_act_X6_cut : GoodIn wsL_act (wsV RL 73 RX6 yX6_cut wsX6_cut) := goodIn_app (goodIn_of _ (by decide +kernel)) ggL_act_X6_cut
set_option maxRecDepth 20000 in
theorem ggL_act_L_why : GoodIn wsL_act wsL_why := goodIn_r _ [108, 109, 110, 5, 111, 112, 113, 114, 115, 116, 117, 52, 53, 54] (by decide +kernel) (by decide +kernel)
set_option maxRecDepth 20000 in
theorem gL_act_L_why : GoodIn wsL_act (va_wsS RL 26 yL_why wsL_why) := goodIn_app (goodIn_of _ (by decide +kernel)) ggL_act_L_why
set_option maxRecDepth 20000 in
theorem ggL_act_X6_lay : GoodIn wsL_act wsX6_lay := goodIn_ca (goodIn_ca (goodIn_r _ [121, 122, 123, 14, 15, 124, 125, 126, 10, 127, 128, 129, 130, 131, 132, 133, 134, 135, 136, 27, 137, 76, 46, 47, 48, 29, 30, 138, 139, 140, 141, 32, 142, 143, 144, 145, 146, 147, 148, 149, 150, 151, 34, 152, 153, 154, 155, 39, 156, 157, 158, 159, 160, 161, 162, 163, 164, 165, 166, 167, 168, 169, 170, 82, 83, 84, 171, 172, 173, 174, 175, 40, 89, 90, 98, 99, 100, 176, 177, 178, 179, 180, 181, 182, 183, 184, 185, 16, 17, 18, 19, 20, 21, 22, 23, 24, 25, 26, 28, 31, 33, 35, 36, 37, 38, 186, 187, 188, 189, 190, 191, 192, 193, 194, 303, 304, 305, 306, 307, 308, 312, 313, 314, 315, 316, 317, 318, 319, 323, 324, 325, 326, 309, 310, 311] (by decide +kernel) (by decide +kernel)) (goodIn_sub (fun _ h => List.mem_cons_of_mem _ (List.mem_append_left _ (List.mem_append_right _ h))) (by decide +kernel))) (goodIn_sub (fun _ h => List.mem_cons_of_mem _ (List.mem_append_right _ h)) (by decide +kernel))
set_option maxRecDepth 20000 in
theorem gL_act_X6_lay : GoodIn wsL_act (wsV RL 75 RX6 yX6_lay wsX6_lay) := goodIn_app (goodIn_of _ (by decide +kernel)) ggL_act_X6_lay
set_option maxRecDepth 20000 in
theorem ggL_act_X6_take : GoodIn wsL_act wsX6_take := goodIn_ca (goodIn_ca (goodIn_r _ [198, 122, 123, 15, 14, 199, 130, 131, 132, 10, 133, 128, 129, 134, 135, 136, 27, 137, 76, 46, 47, 48, 29, 30, 148, 149, 150, 151, 34, 200, 201, 202, 203, 33, 16, 17, 18, 19, 20, 21, 22, 23, 24, 25, 26, 28, 31, 32, 35, 36, 37, 38, 39, 40, 204, 205, 206, 207, 303, 304, 305, 306, 307, 308, 312, 313, 314, 315, 316, 317, 318, 319, 309, 310, 311] (by decide +kernel) (by decide +kernel)) (goodIn_sub (fun _ h => List.mem_cons_of_mem _ (List.mem_append_left _ (List.mem_append_right _ h))) (by decide +kernel))) (goodIn_sub (fun _ h => List.mem_cons_of_mem _ (List.mem_append_right _ h)) (by decide +kernel))
set_option maxRecDepth 20000 in
theorem gL_act_X6_take : GoodIn wsL_act (wsV RL 78 RX6 yX6_take wsX6_take) := goodIn_app (goodIn_of _ (by decide +kernel)) ggL_act_X6_take
set_option maxRecDepth 20000 in
theorem ggL_act_X6_fix : GoodIn wsL_act wsX6_fix := goodIn_ca (goodIn_ca (goodIn_r _ [211, 122, 123, 15, 14, 212, 130, 131, 132, 10, 133, 128, 129, 134, 135, 136, 27, 137, 76, 46, 47, 48, 29, 30, 148, 149, 150, 151, 34, 16, 17, 18, 19, 20, 21, 22, 23, 24, 25, 26, 28, 31, 32, 33, 35, 36, 37, 38, 39, 40, 200, 201, 202, 203, 303, 304, 305, 306, 307, 308, 312, 313, 314, 315, 316, 317, 318, 319, 309, 310, 311] (by decide +kernel) (by decide +kernel)) (goodIn_sub (fun _ h => List.mem_cons_of_mem _ (List.mem_append_left _ (List.mem_append_right _ h))) (by decide +kernel))) (goodIn_sub (fun _ h => List.mem_cons_of_mem _ (List.mem_append_right _ h)) (by decide +kernel))
set_option maxRecDepth 20000 in
theorem gL_act_X6_fix : GoodIn wsL_act (wsV RL 81 RX6 yX6_fix wsX6_fix) := goodIn_app (goodIn_of _ (by decide +kernel)) ggL_act_X6_fix
set_option maxRecDepth 20000 in
theorem ggL_act_X6_setRule : GoodIn wsL_act wsX6_setRule := goodIn_ca (goodIn_r _ [216, 12, 13, 14, 15, 217, 16, 17, 18, 19, 20, 21, 22, 23, 24, 25, 26, 27, 28, 29, 30, 31, 32, 33, 34, 35, 36, 37, 38, 39, 40, 303, 304, 305, 306, 307, 308, 312, 313, 314, 315, 316, 317, 318, 319, 309, 310, 311] (by decide +kernel) (by decide +kernel)) (goodIn_sub (fun _ h => List.mem_cons_of_mem _ (List.mem_append_left _ (List.mem_append_left _ (List.mem_append_right _ h)))) (by decide +kernel))
set_option maxRecDepth 20000 in
theorem gL_act_X6_setRule : GoodIn wsL_act (wsV RL 84 RX6 yX6_setRule wsX6_setRule) := goodIn_app (goodIn_of _ (by decide +kernel)) ggL_act_X6_setRule
set_option maxRecDepth 20000 in
theorem ggL_act_X6_clear : GoodIn wsL_act wsX6_clear := goodIn_r _ [221, 14, 15, 212, 16, 17, 18, 19, 20, 21, 22, 23, 24, 25, 26, 27, 28, 29, 30, 31, 32, 33, 34, 35, 36, 37, 38, 39, 40, 222, 223, 224, 225, 76, 46, 47, 48, 194, 149, 150, 151, 226, 205, 206, 207, 303, 304, 305, 306, 307, 308, 312, 313, 314, 315, 316, 317, 318, 319, 309, 310, 311] (by decide +kernel) (by decide +kernel)
set_option maxRecDepth 20000 in
theorem gL_act_X6_clear : GoodIn wsL_act (wsV RL 87 RX6 yX6_clear wsX6_clear) := goodIn_app (goodIn_of _ (by decide +kernel)) ggL_act_X6_clear
set_option maxRecDepth 20000 in
theorem ggL_act_X6_turnOver : GoodIn wsL_act wsX6_turnOver := goodIn_r _ [230, 14, 15, 16, 17, 18, 19, 20, 21, 22, 23, 24, 25, 26, 27, 28, 29, 30, 31, 32, 33, 34, 35, 36, 37, 38, 39, 40, 231, 232, 233, 234, 235, 236, 237, 238, 239, 10, 240, 76, 46, 47, 48, 194, 149, 150, 151, 45, 190, 191, 192, 193, 303, 304, 305, 306, 307, 308, 309, 310, 311, 312, 313, 314, 315, 316, 317, 318, 319] (by decide +kernel) (by decide +kernel)
end
section
set_option maxRecDepth 20000 in
theorem gL_act_X6_turnOver : GoodIn wsL_act (wsV RL 90 RX6 yX6_turnOver wsX6_turnOver) := goodIn_app (goodIn_of _ (by decide +kernel)) ggL_act_X6_turnOver
set_option maxRecDepth 20000 in
theorem ggL_act_X6_addTile : GoodIn wsL_act wsX6_addTile := goodIn_ca (goodIn_ca (goodIn_r _ [244, 12, 13, 122, 123, 15, 63, 14, 16, 17, 18, 19, 20, 21, 22, 23, 24, 25, 26, 27, 28, 29, 30, 31, 32, 33, 34, 35, 36, 37, 38, 39, 40, 245, 246, 247, 248, 249, 10, 250, 251, 252, 253, 101, 102, 103, 91, 92, 93, 94, 95, 96, 97, 98, 99, 100, 104, 105, 303, 304, 305, 306, 307, 308, 312, 313, 314, 315, 316, 317, 318, 319, 309, 310, 311] (by decide +kernel) (by decide +kernel)) (goodIn_sub (fun _ h => List.mem_cons_of_mem _ (List.mem_append_left _ (List.mem_append_left _ (List.mem_append_right _ h)))) (by decide +kernel))) (goodIn_sub (fun _ h => List.mem_cons_of_mem _ (List.mem_append_left _ (List.mem_append_right _ h))) (by decide +kernel))
set_option maxRecDepth 20000 in
theorem gL_act_X6_addTile : GoodIn wsL_act (wsV RL 93 RX6 yX6_addTile wsX6_addTile) := goodIn_app (goodIn_of _ (by decide +kernel)) ggL_act_X6_addTile
set_option maxRecDepth 20000 in
theorem ggL_act_L_where : GoodIn wsL_act wsL_where := goodIn_r _ [111] (by decide +kernel) (by decide +kernel)
set_option maxRecDepth 20000 in
theorem gL_act_L_where : GoodIn wsL_act (va_wsS RL 18 yL_where wsL_where) := goodIn_app (goodIn_of _ (by decide +kernel)) ggL_act_L_where
set_option maxRecDepth 20000 in
theorem ggL_act_X6_dropTile : GoodIn wsL_act wsX6_dropTile := goodIn_ca (goodIn_r _ [257, 122, 123, 15, 63, 14, 152, 153, 154, 27, 155, 39, 16, 17, 18, 19, 20, 21, 22, 23, 24, 25, 26, 28, 29, 30, 31, 32, 33, 34, 35, 36, 37, 38, 40, 303, 304, 305, 306, 307, 308, 312, 313, 314, 315, 316, 317, 318, 319, 309, 310, 311] (by decide +kernel) (by decide +kernel)) (goodIn_sub (fun _ h => List.mem_cons_of_mem _ (List.mem_append_left _ (List.mem_append_right _ h))) (by decide +kernel))
set_option maxRecDepth 20000 in
theorem gL_act_X6_dropTile : GoodIn wsL_act (wsV RL 96 RX6 yX6_dropTile wsX6_dropTile) := goodIn_app (goodIn_of _ (by decide +kernel)) ggL_act_X6_dropTile
set_option maxRecDepth 20000 in
theorem ggL_act_L_search : GoodIn wsL_act wsL_search := goodIn_r _ [260, 2, 106, 107, 5, 108, 109, 110, 111, 112, 113, 114, 115, 116, 117, 52, 53, 54] (by decide +kernel) (by decide +kernel)
set_option maxRecDepth 20000 in
theorem gL_act_L_search : GoodIn wsL_act (va_wsS RL 46 yL_search wsL_search) := goodIn_app (goodIn_of _ (by decide +kernel)) ggL_act_L_search
set_option maxRecDepth 20000 in
theorem ggL_act_X6_solve : GoodIn wsL_act wsX6_solve := goodIn_ca (goodIn_r _ [264, 122, 123, 265, 15, 266, 14, 267, 268, 269, 270, 271, 272, 273, 274, 25, 26, 27, 28, 29, 30, 31, 32, 33, 34, 35, 36, 37, 38, 39, 40, 275, 276, 277, 278, 279, 280, 281, 282, 283, 284, 285, 286, 287, 288, 289, 290, 291, 46, 47, 48, 292, 149, 150, 151, 293, 157, 158, 159, 160, 161, 162, 163, 164, 165, 166, 167, 168, 169, 170, 82, 83, 84, 76, 171, 172, 173, 174, 175, 89, 10, 90, 98, 99, 100, 176, 177, 178, 179, 180, 294, 153, 154, 155, 295, 182, 183, 184, 185, 296, 297, 298, 299, 300, 187, 188, 189, 301, 205, 206, 207, 16, 17, 18, 19, 20, 21, 22, 23, 24, 190, 191, 192, 193, 194, 302, 303, 304, 305, 306, 307, 308, 327, 328, 329, 330, 331, 332, 333, 312, 313, 314, 315, 316, 317, 318, 319, 323, 324, 325, 326, 309, 310, 311] (by decide +kernel) (by decide +kernel)) (goodIn_sub (fun _ h => List.mem_cons_of_mem _ (List.mem_append_left _ (List.mem_append_right _ h))) (by decide +kernel))
set_option maxRecDepth 20000 in
theorem gL_act_X6_solve : GoodIn wsL_act (wsV RL 99 RX6 yX6_solve wsX6_solve) := goodIn_app (goodIn_of _ (by decide +kernel)) ggL_act_X6_solve
set_option maxRecDepth 20000 in
theorem ggL_law_X6_init : GoodIn wsL_law wsX6_init := goodIn_r _ [7, 8, 9, 10, 11, 12, 13, 14, 15, 16, 17, 18, 19, 20, 21, 22, 23, 24, 25, 26, 27, 28, 29, 30, 31, 32, 33, 34, 35, 36, 37, 38, 39, 40, 41, 42, 3, 43, 44, 45, 46, 47, 48, 49, 50, 51, 52, 53, 54, 55, 56, 57, 58, 59, 60, 61, 62, 63, 64, 65, 66, 67, 68, 69, 70, 71, 72, 73, 74, 75, 76, 77, 78, 79, 80, 81, 82, 83, 84, 85, 86, 87, 88, 478, 479, 480, 481, 482, 483, 484, 485, 472, 473, 474, 475, 476, 477, 486, 487, 488, 489, 490, 491, 492, 493, 494, 495, 496, 497, 498, 499, 500, 501, 502, 503, 504] (by decide +kernel) (by decide +kernel)
set_option maxRecDepth 20000 in
theorem gL_law_X6_init : GoodIn wsL_law (wsX6_init) := ggL_law_X6_init
set_option maxRecDepth 20000 in
theorem ggL_law_L_told : GoodIn wsL_law wsL_told := goodIn_ca (goodIn_ca (goodIn_r _ [92, 3, 93, 94, 91, 95, 96, 97, 98, 99, 100, 101, 102, 103, 104, 105, 106, 107, 108, 109, 110, 2, 111, 112, 113, 114, 115, 116, 117, 118, 119, 14, 120, 121, 122, 13, 123, 124, 125, 126, 127, 38, 39, 128, 129, 130, 131, 132, 133, 134, 135, 136, 42, 137, 138, 139, 140, 26, 141, 142, 143, 144, 145, 43, 146, 147, 148, 25, 149, 62, 63, 64, 65, 150, 151, 152, 153, 154, 155, 156, 157, 158, 159, 160, 161, 162, 163, 45, 164, 165, 166, 167, 168, 169, 170, 171, 172, 173, 174, 175, 176, 177, 178, 179, 180, 181, 182, 44, 183, 184, 185, 186, 187, 188, 189, 190, 191, 192, 193, 194, 195, 196, 197, 198, 199, 200, 201, 202, 203, 204, 205, 206, 207, 208, 209, 210, 211, 212, 213, 214, 215, 216, 217, 218, 219, 220, 221, 222, 223, 224, 225, 226, 227, 228, 229, 230, 231, 232, 233, 41, 234, 235, 236, 237, 238, 239, 240, 241, 242, 243, 244, 30, 245, 246, 247, 29, 248, 71, 249, 250, 251, 252, 40, 253, 254, 255, 256, 257, 258, 259, 260, 75, 72, 76, 77, 78, 261, 262, 263, 264, 74, 265, 266, 267, 268, 269, 270, 271, 272, 273, 274, 275, 276, 277, 278, 279, 280, 281, 282, 283, 284, 285, 286, 287, 288, 289, 290, 291, 292, 293, 294, 295, 296, 297, 298, 299, 300, 301, 302, 303, 304, 305, 306, 307, 308, 309, 310, 311, 312, 313, 314, 315, 316, 317, 318, 319, 320, 321, 322, 323, 324, 325, 326, 327, 328, 18, 329, 330, 331, 332, 333, 334, 335, 336, 337, 338, 339, 340, 341, 342, 343, 344, 472, 473, 474, 475, 476, 477, 478, 479, 480, 481, 482, 483, 484, 485, 491, 492, 493, 494, 495, 496, 497, 498, 499, 500, 501, 486, 487, 488] (by decide +kernel) (by decide +kernel)) (goodIn_sub (fun _ h => List.mem_append_left _ (List.mem_append_left _ (List.mem_append_right _ h))) (by decide +kernel))) (goodIn_sub (fun _ h => List.mem_append_left _ (List.mem_append_right _ h)) (by decide +kernel))
set_option maxRecDepth 20000 in
theorem gL_law_L_told : GoodIn wsL_law (va_wsS RL 103 yL_told wsL_told) := goodIn_app (goodIn_of _ (by decide +kernel)) ggL_law_L_told
set_option maxRecDepth 20000 in
theorem ggL_law_X6_count : GoodIn wsL_law wsX6_count := goodIn_ca (goodIn_r _ [320, 112, 113, 321, 322, 323, 2, 324, 14, 325, 326, 141, 327, 328, 296, 18, 329, 330, 331, 332, 13, 333, 124, 125, 126, 127, 38, 39, 306, 143, 144, 145, 43, 334, 335, 336, 337, 338, 339, 340, 297, 298, 299, 300, 301, 302, 303, 304, 305, 156, 157, 158, 307, 161, 162, 163, 45, 166, 167, 168, 164, 165, 341, 342, 343, 344, 26, 316, 142, 146, 147, 148, 25, 149, 62, 63, 64, 65, 150, 151, 152, 153, 154, 155, 159, 160, 169, 170, 171, 172, 173, 200, 183, 184, 185, 186, 187, 472, 473, 474, 475, 476, 477, 478, 479, 480, 481, 482, 483, 484, 485, 486, 487, 488, 491, 492, 493, 494] (by decide +kernel) (by decide +kernel)) (goodIn_sub (fun _ h => List.mem_append_left _ (List.mem_append_left _ (List.mem_append_right _ h))) (by decide +kernel))
set_option maxRecDepth 20000 in
theorem gL_law_X6_count : GoodIn wsL_law (wsV RL 61 RX6 yX6_count wsX6_count) := goodIn_app (goodIn_of _ (by decide +kernel)) ggL_law_X6_count
end
section
set_option maxRecDepth 20000 in
theorem ggL_law_L_cell : GoodIn wsL_law wsL_cell := goodIn_r _ [347, 348] (by decide +kernel) (by decide +kernel)
set_option maxRecDepth 20000 in
theorem gL_law_L_cell : GoodIn wsL_law (va_wsS RL 107 yL_cell wsL_cell) := goodIn_app (goodIn_of _ (by decide +kernel)) ggL_law_L_cell
set_option maxRecDepth 20000 in
theorem ggL_law_L_at : GoodIn wsL_law wsL_at := goodIn_r _ [221] (by decide +kernel) (by decide +kernel)
set_option maxRecDepth 20000 in
theorem gL_law_L_at : GoodIn wsL_law (va_wsS RL 41 yL_at wsL_at) := goodIn_app (goodIn_of _ (by decide +kernel)) ggL_law_L_at
set_option maxRecDepth 20000 in
theorem ggL_law_L_act : GoodIn wsL_law wsL_act := goodIn_ca (goodIn_ca (goodIn_ca (goodIn_r _ [351, 352, 3, 219, 220, 91, 221, 353, 354, 355, 2, 356, 112, 113, 18, 14, 357, 358, 359, 17, 360, 53, 52, 51, 361, 250, 251, 13, 252, 38, 39, 40, 41, 42, 43, 253, 254, 255, 256, 44, 45, 85, 86, 87, 88, 316, 125, 126, 127, 362, 363, 364, 105, 106, 107, 365, 366, 367, 368, 369, 325, 326, 34, 141, 370, 371, 372, 33, 373, 82, 83, 84, 374, 375, 376, 377, 124, 378, 379, 380, 381, 305, 156, 157, 158, 382, 383, 384, 385, 164, 165, 386, 387, 388, 389, 390, 391, 201, 166, 167, 168, 392, 393, 394, 395, 396, 93, 94, 95, 96, 97, 98, 99, 100, 101, 102, 103, 104, 397, 398, 399, 400, 401, 402, 226, 227, 228, 229, 118, 119, 114, 115, 116, 117, 120, 121, 122, 123, 230, 231, 232, 233, 234, 235, 236, 237, 26, 178, 142, 143, 144, 145, 179, 180, 181, 182, 146, 147, 148, 25, 149, 62, 63, 64, 65, 150, 151, 152, 153, 154, 155, 159, 160, 161, 162, 163, 169, 170, 171, 172, 173, 183, 184, 185, 186, 187, 403, 277, 278, 279, 330, 331, 332, 333, 306, 404, 405, 406, 407, 132, 133, 134, 135, 136, 408, 281, 282, 283, 409, 410, 411, 412, 327, 413, 414, 415, 416, 328, 417, 418, 419, 420, 421, 422, 423, 424, 425, 426, 427, 428, 429, 430, 431, 432, 433, 434, 435, 436, 437, 438, 439, 440, 441, 442, 443, 444, 445, 446, 447, 448, 449, 450, 451, 452, 453, 454, 455, 456, 238, 239, 240, 457, 458, 459, 460, 30, 461, 462, 245, 246, 247, 29, 248, 71, 249, 257, 258, 259, 260, 75, 72, 76, 77, 78, 261, 262, 263, 264, 74, 265, 266, 267, 268, 269, 270, 271, 272, 273, 274, 275, 276, 280, 463, 472, 473, 474, 475, 476, 477, 486, 487, 488, 478, 479, 480, 481, 482, 483, 484, 485, 502, 503, 504, 491, 492, 493, 494, 495, 496, 497, 498, 499, 500, 501] (by decide +kernel) (by decide +kernel)) (goodIn_sub (fun _ h => List.mem_append_left _ (List.mem_append_left _ (List.mem_append_right _ h))) (by decide +kernel))) (goodIn_sub (fun _ h => List.mem_append_right _ h) (by decide +kernel))) (goodIn_sub (fun _ h => List.mem_append_left _ (List.mem_append_right _ h)) (by decide +kernel))
set_option maxRecDepth 20000 in
theorem gL_law_L_act : GoodIn wsL_law (va_wsS RL 111 yL_act wsL_act) := goodIn_app (goodIn_of _ (by decide +kernel)) ggL_law_L_act
set_option maxRecDepth 20000 in
theorem ggL_law_X6_undo : GoodIn wsL_law wsX6_undo := goodIn_ca (goodIn_r _ [467, 401, 402, 18, 329, 14, 468, 469, 470, 17, 471, 53, 51, 52, 361, 250, 251, 13, 252, 38, 39, 40, 41, 42, 43, 253, 254, 255, 256, 44, 45, 472, 473, 474, 475, 476, 477, 486, 487, 488, 478, 479, 480, 481, 482, 483, 484, 485] (by decide +kernel) (by decide +kernel)) (goodIn_sub (fun _ h => List.mem_append_right _ h) (by decide +kernel))
set_option maxRecDepth 20000 in
theorem gL_law_X6_undo : GoodIn wsL_law (wsV RL 115 RX6 yX6_undo wsX6_undo) := goodIn_app (goodIn_of _ (by decide +kernel)) ggL_law_X6_undo
end
section
theorem dL_told_0 : decode cL_told 0 = .ok (.bipush 15, 2) := by decide +kernel
theorem dL_told_2 : decode cL_told 2 = .ok (.newarray .int, 2) := by decide +kernel
theorem dL_told_4 : decode cL_told 4 = .ok (.astore 4, 2) := by decide +kernel
theorem dL_told_6 : decode cL_told 6 = .ok (.aload_n 2, 1) := by decide +kernel
theorem dL_told_7 : decode cL_told 7 = .ok (.iconst 0, 1) := by decide +kernel
theorem dL_told_8 : decode cL_told 8 = .ok (.iaload, 1) := by decide +kernel
theorem dL_told_9 : decode cL_told 9 = .ok (.aload_n 2, 1) := by decide +kernel
theorem dL_told_10 : decode cL_told 10 = .ok (.iconst 1, 1) := by decide +kernel
theorem dL_told_11 : decode cL_told 11 = .ok (.iaload, 1) := by decide +kernel
theorem dL_told_12 : decode cL_told 12 = .ok (.imul, 1) := by decide +kernel
theorem dL_told_13 : decode cL_told 13 = .ok (.istore 5, 2) := by decide +kernel
theorem dL_told_15 : decode cL_told 15 = .ok (.iconst 0, 1) := by decide +kernel
theorem dL_told_16 : decode cL_told 16 = .ok (.istore 6, 2) := by decide +kernel
theorem dL_told_18 : decode cL_told 18 = .ok (.iconst 0, 1) := by decide +kernel
theorem dL_told_19 : decode cL_told 19 = .ok (.istore 7, 2) := by decide +kernel
theorem dL_told_21 : decode cL_told 21 = .ok (.iconst 0, 1) := by decide +kernel
theorem dL_told_22 : decode cL_told 22 = .ok (.istore 8, 2) := by decide +kernel
theorem dL_told_24 : decode cL_told 24 = .ok (.iconst 0, 1) := by decide +kernel
theorem dL_told_25 : decode cL_told 25 = .ok (.istore 9, 2) := by decide +kernel
theorem dL_told_27 : decode cL_told 27 = .ok (.iconst 0, 1) := by decide +kernel
theorem dL_told_28 : decode cL_told 28 = .ok (.istore 10, 2) := by decide +kernel
theorem dL_told_30 : decode cL_told 30 = .ok (.iconst 0, 1) := by decide +kernel
theorem dL_told_31 : decode cL_told 31 = .ok (.istore 11, 2) := by decide +kernel
theorem dL_told_33 : decode cL_told 33 = .ok (.iconst (-1), 1) := by decide +kernel
theorem dL_told_34 : decode cL_told 34 = .ok (.istore 12, 2) := by decide +kernel
theorem dL_told_36 : decode cL_told 36 = .ok (.bipush 99, 2) := by decide +kernel
theorem dL_told_38 : decode cL_told 38 = .ok (.istore 13, 2) := by decide +kernel
theorem dL_told_40 : decode cL_told 40 = .ok (.iconst 0, 1) := by decide +kernel
theorem dL_told_41 : decode cL_told 41 = .ok (.istore 14, 2) := by decide +kernel
theorem dL_told_43 : decode cL_told 43 = .ok (.iload 14, 2) := by decide +kernel
theorem dL_told_45 : decode cL_told 45 = .ok (.iload 5, 2) := by decide +kernel
theorem dL_told_47 : decode cL_told 47 = .ok (.if_icmp .ge 393, 3) := by decide +kernel
theorem dL_told_50 : decode cL_told 50 = .ok (.aload_n 2, 1) := by decide +kernel
theorem dL_told_51 : decode cL_told 51 = .ok (.iconst 4, 1) := by decide +kernel
theorem dL_told_52 : decode cL_told 52 = .ok (.iload 14, 2) := by decide +kernel
theorem dL_told_54 : decode cL_told 54 = .ok (.iadd, 1) := by decide +kernel
theorem dL_told_55 : decode cL_told 55 = .ok (.iaload, 1) := by decide +kernel
theorem dL_told_56 : decode cL_told 56 = .ok (.istore 15, 2) := by decide +kernel
theorem dL_told_58 : decode cL_told 58 = .ok (.iconst 0, 1) := by decide +kernel
theorem dL_told_59 : decode cL_told 59 = .ok (.istore 16, 2) := by decide +kernel
theorem dL_told_61 : decode cL_told 61 = .ok (.iconst (-1), 1) := by decide +kernel
theorem dL_told_62 : decode cL_told 62 = .ok (.istore 17, 2) := by decide +kernel
theorem dL_told_64 : decode cL_told 64 = .ok (.bipush 8, 2) := by decide +kernel
theorem dL_told_66 : decode cL_told 66 = .ok (.aload_n 2, 1) := by decide +kernel
theorem dL_told_67 : decode cL_told 67 = .ok (.iconst 3, 1) := by decide +kernel
theorem dL_told_68 : decode cL_told 68 = .ok (.iaload, 1) := by decide +kernel
theorem dL_told_69 : decode cL_told 69 = .ok (.imul, 1) := by decide +kernel
theorem dL_told_70 : decode cL_told 70 = .ok (.iconst 1, 1) := by decide +kernel
theorem dL_told_71 : decode cL_told 71 = .ok (.isub, 1) := by decide +kernel
theorem dL_told_72 : decode cL_told 72 = .ok (.istore 18, 2) := by decide +kernel
theorem dL_told_74 : decode cL_told 74 = .ok (.iload 18, 2) := by decide +kernel
theorem dL_told_76 : decode cL_told 76 = .ok (.ifCond .lt 31, 3) := by decide +kernel
theorem dL_told_79 : decode cL_told 79 = .ok (.iload 14, 2) := by decide +kernel
theorem dL_told_81 : decode cL_told 81 = .ok (.iload 18, 2) := by decide +kernel
theorem dL_told_83 : decode cL_told 83 = .ok (.aload_n 2, 1) := by decide +kernel
theorem dL_told_84 : decode cL_told 84 = .ok (.aload_n 3, 1) := by decide +kernel
theorem dL_told_85 : decode cL_told 85 = .ok (.invokestatic 26, 3) := by decide +kernel
theorem dL_told_88 : decode cL_told 88 = .ok (.ifCond .le 6, 3) := by decide +kernel
theorem dL_told_91 : decode cL_told 91 = .ok (.goto 10, 3) := by decide +kernel
theorem dL_told_94 : decode cL_told 94 = .ok (.iinc 16 1, 3) := by decide +kernel
theorem dL_told_97 : decode cL_told 97 = .ok (.iload 18, 2) := by decide +kernel
theorem dL_told_99 : decode cL_told 99 = .ok (.istore 17, 2) := by decide +kernel
theorem dL_told_101 : decode cL_told 101 = .ok (.iinc 18 (-1), 3) := by decide +kernel
theorem dL_told_104 : decode cL_told 104 = .ok (.goto (-30), 3) := by decide +kernel
theorem dL_told_107 : decode cL_told 107 = .ok (.aload_n 0, 1) := by decide +kernel
theorem dL_told_108 : decode cL_told 108 = .ok (.iload 14, 2) := by decide +kernel
theorem dL_told_110 : decode cL_told 110 = .ok (.iconst 0, 1) := by decide +kernel
theorem dL_told_111 : decode cL_told 111 = .ok (.invokevirtual 29, 3) := by decide +kernel
theorem dL_told_114 : decode cL_told 114 = .ok (.iload 15, 2) := by decide +kernel
theorem dL_told_116 : decode cL_told 116 = .ok (.if_icmp .ne 44, 3) := by decide +kernel
theorem dL_told_119 : decode cL_told 119 = .ok (.aload_n 0, 1) := by decide +kernel
theorem dL_told_120 : decode cL_told 120 = .ok (.iload 14, 2) := by decide +kernel
theorem dL_told_122 : decode cL_told 122 = .ok (.iconst 1, 1) := by decide +kernel
theorem dL_told_123 : decode cL_told 123 = .ok (.invokevirtual 29, 3) := by decide +kernel
theorem dL_told_126 : decode cL_told 126 = .ok (.aload_n 2, 1) := by decide +kernel
theorem dL_told_127 : decode cL_told 127 = .ok (.bipush 16, 2) := by decide +kernel
theorem dL_told_129 : decode cL_told 129 = .ok (.iload 14, 2) := by decide +kernel
theorem dL_told_131 : decode cL_told 131 = .ok (.iadd, 1) := by decide +kernel
theorem dL_told_132 : decode cL_told 132 = .ok (.iaload, 1) := by decide +kernel
theorem dL_told_133 : decode cL_told 133 = .ok (.if_icmp .ne 27, 3) := by decide +kernel
theorem dL_told_136 : decode cL_told 136 = .ok (.aload_n 0, 1) := by decide +kernel
theorem dL_told_137 : decode cL_told 137 = .ok (.iload 14, 2) := by decide +kernel
theorem dL_told_139 : decode cL_told 139 = .ok (.iconst 2, 1) := by decide +kernel
theorem dL_told_140 : decode cL_told 140 = .ok (.invokevirtual 29, 3) := by decide +kernel
theorem dL_told_143 : decode cL_told 143 = .ok (.iload 16, 2) := by decide +kernel
theorem dL_told_145 : decode cL_told 145 = .ok (.if_icmp .ne 15, 3) := by decide +kernel
theorem dL_told_148 : decode cL_told 148 = .ok (.aload_n 0, 1) := by decide +kernel
theorem dL_told_149 : decode cL_told 149 = .ok (.iload 14, 2) := by decide +kernel
theorem dL_told_151 : decode cL_told 151 = .ok (.iconst 3, 1) := by decide +kernel
theorem dL_told_152 : decode cL_told 152 = .ok (.invokevirtual 29, 3) := by decide +kernel
end
section
theorem dL_told_155 : decode cL_told 155 = .ok (.iload 17, 2) := by decide +kernel
theorem dL_told_157 : decode cL_told 157 = .ok (.if_icmp .eq 5, 3) := by decide +kernel
theorem dL_told_160 : decode cL_told 160 = .ok (.iconst 0, 1) := by decide +kernel
theorem dL_told_161 : decode cL_told 161 = .ok (.ireturn, 1) := by decide +kernel
theorem dL_told_162 : decode cL_told 162 = .ok (.iload 6, 2) := by decide +kernel
theorem dL_told_164 : decode cL_told 164 = .ok (.iload 15, 2) := by decide +kernel
theorem dL_told_166 : decode cL_told 166 = .ok (.ifCond .ge 7, 3) := by decide +kernel
theorem dL_told_169 : decode cL_told 169 = .ok (.iconst 1, 1) := by decide +kernel
theorem dL_told_170 : decode cL_told 170 = .ok (.goto 4, 3) := by decide +kernel
theorem dL_told_173 : decode cL_told 173 = .ok (.iconst 0, 1) := by decide +kernel
theorem dL_told_174 : decode cL_told 174 = .ok (.iadd, 1) := by decide +kernel
theorem dL_told_175 : decode cL_told 175 = .ok (.istore 6, 2) := by decide +kernel
theorem dL_told_177 : decode cL_told 177 = .ok (.iload 7, 2) := by decide +kernel
theorem dL_told_179 : decode cL_told 179 = .ok (.aload_n 2, 1) := by decide +kernel
theorem dL_told_180 : decode cL_told 180 = .ok (.bipush 16, 2) := by decide +kernel
theorem dL_told_182 : decode cL_told 182 = .ok (.iload 14, 2) := by decide +kernel
theorem dL_told_184 : decode cL_told 184 = .ok (.iadd, 1) := by decide +kernel
theorem dL_told_185 : decode cL_told 185 = .ok (.iaload, 1) := by decide +kernel
theorem dL_told_186 : decode cL_told 186 = .ok (.iadd, 1) := by decide +kernel
theorem dL_told_187 : decode cL_told 187 = .ok (.istore 7, 2) := by decide +kernel
theorem dL_told_189 : decode cL_told 189 = .ok (.iload 16, 2) := by decide +kernel
theorem dL_told_191 : decode cL_told 191 = .ok (.ifCond .le 24, 3) := by decide +kernel
theorem dL_told_194 : decode cL_told 194 = .ok (.iload 16, 2) := by decide +kernel
theorem dL_told_196 : decode cL_told 196 = .ok (.iload 13, 2) := by decide +kernel
theorem dL_told_198 : decode cL_told 198 = .ok (.if_icmp .ge 17, 3) := by decide +kernel
theorem dL_told_201 : decode cL_told 201 = .ok (.iload 16, 2) := by decide +kernel
theorem dL_told_203 : decode cL_told 203 = .ok (.istore 13, 2) := by decide +kernel
theorem dL_told_205 : decode cL_told 205 = .ok (.bipush 100, 2) := by decide +kernel
theorem dL_told_207 : decode cL_told 207 = .ok (.iload 14, 2) := by decide +kernel
theorem dL_told_209 : decode cL_told 209 = .ok (.imul, 1) := by decide +kernel
theorem dL_told_210 : decode cL_told 210 = .ok (.iload 17, 2) := by decide +kernel
theorem dL_told_212 : decode cL_told 212 = .ok (.iadd, 1) := by decide +kernel
theorem dL_told_213 : decode cL_told 213 = .ok (.istore 12, 2) := by decide +kernel
theorem dL_told_215 : decode cL_told 215 = .ok (.iload 11, 2) := by decide +kernel
theorem dL_told_217 : decode cL_told 217 = .ok (.iload 15, 2) := by decide +kernel
theorem dL_told_219 : decode cL_told 219 = .ok (.ifCond .lt 19, 3) := by decide +kernel
theorem dL_told_222 : decode cL_told 222 = .ok (.iload 14, 2) := by decide +kernel
theorem dL_told_224 : decode cL_told 224 = .ok (.iload 15, 2) := by decide +kernel
theorem dL_told_226 : decode cL_told 226 = .ok (.aload_n 2, 1) := by decide +kernel
theorem dL_told_227 : decode cL_told 227 = .ok (.aload_n 3, 1) := by decide +kernel
theorem dL_told_228 : decode cL_told 228 = .ok (.invokestatic 22, 3) := by decide +kernel
theorem dL_told_231 : decode cL_told 231 = .ok (.ifCond .le 7, 3) := by decide +kernel
theorem dL_told_234 : decode cL_told 234 = .ok (.iconst 1, 1) := by decide +kernel
theorem dL_told_235 : decode cL_told 235 = .ok (.goto 4, 3) := by decide +kernel
theorem dL_told_238 : decode cL_told 238 = .ok (.iconst 0, 1) := by decide +kernel
theorem dL_told_239 : decode cL_told 239 = .ok (.iadd, 1) := by decide +kernel
theorem dL_told_240 : decode cL_told 240 = .ok (.istore 11, 2) := by decide +kernel
theorem dL_told_242 : decode cL_told 242 = .ok (.iconst 0, 1) := by decide +kernel
theorem dL_told_243 : decode cL_told 243 = .ok (.istore 18, 2) := by decide +kernel
theorem dL_told_245 : decode cL_told 245 = .ok (.iload 18, 2) := by decide +kernel
theorem dL_told_247 : decode cL_told 247 = .ok (.iconst 4, 1) := by decide +kernel
theorem dL_told_248 : decode cL_told 248 = .ok (.if_icmp .ge 186, 3) := by decide +kernel
theorem dL_told_251 : decode cL_told 251 = .ok (.iload 14, 2) := by decide +kernel
theorem dL_told_253 : decode cL_told 253 = .ok (.iload 18, 2) := by decide +kernel
theorem dL_told_255 : decode cL_told 255 = .ok (.aload_n 2, 1) := by decide +kernel
theorem dL_told_256 : decode cL_told 256 = .ok (.invokestatic 14, 3) := by decide +kernel
theorem dL_told_259 : decode cL_told 259 = .ok (.istore 19, 2) := by decide +kernel
theorem dL_told_261 : decode cL_told 261 = .ok (.aload_n 0, 1) := by decide +kernel
theorem dL_told_262 : decode cL_told 262 = .ok (.iload 14, 2) := by decide +kernel
theorem dL_told_264 : decode cL_told 264 = .ok (.iload 18, 2) := by decide +kernel
theorem dL_told_266 : decode cL_told 266 = .ok (.iconst 0, 1) := by decide +kernel
theorem dL_told_267 : decode cL_told 267 = .ok (.invokevirtual 35, 3) := by decide +kernel
theorem dL_told_270 : decode cL_told 270 = .ok (.iload 15, 2) := by decide +kernel
theorem dL_told_272 : decode cL_told 272 = .ok (.ifCond .ge 7, 3) := by decide +kernel
theorem dL_told_275 : decode cL_told 275 = .ok (.iconst (-1), 1) := by decide +kernel
theorem dL_told_276 : decode cL_told 276 = .ok (.goto 12, 3) := by decide +kernel
theorem dL_told_279 : decode cL_told 279 = .ok (.iload 15, 2) := by decide +kernel
theorem dL_told_281 : decode cL_told 281 = .ok (.iload 18, 2) := by decide +kernel
theorem dL_told_283 : decode cL_told 283 = .ok (.iconst 0, 1) := by decide +kernel
theorem dL_told_284 : decode cL_told 284 = .ok (.aload_n 3, 1) := by decide +kernel
theorem dL_told_285 : decode cL_told 285 = .ok (.invokestatic 8, 3) := by decide +kernel
theorem dL_told_288 : decode cL_told 288 = .ok (.if_icmp .ne 33, 3) := by decide +kernel
theorem dL_told_291 : decode cL_told 291 = .ok (.aload_n 0, 1) := by decide +kernel
theorem dL_told_292 : decode cL_told 292 = .ok (.iload 14, 2) := by decide +kernel
theorem dL_told_294 : decode cL_told 294 = .ok (.iload 18, 2) := by decide +kernel
theorem dL_told_296 : decode cL_told 296 = .ok (.iconst 1, 1) := by decide +kernel
theorem dL_told_297 : decode cL_told 297 = .ok (.invokevirtual 35, 3) := by decide +kernel
theorem dL_told_300 : decode cL_told 300 = .ok (.iload 15, 2) := by decide +kernel
theorem dL_told_302 : decode cL_told 302 = .ok (.ifCond .ge 7, 3) := by decide +kernel
theorem dL_told_305 : decode cL_told 305 = .ok (.iconst (-1), 1) := by decide +kernel
theorem dL_told_306 : decode cL_told 306 = .ok (.goto 12, 3) := by decide +kernel
theorem dL_told_309 : decode cL_told 309 = .ok (.iload 15, 2) := by decide +kernel
theorem dL_told_311 : decode cL_told 311 = .ok (.iload 18, 2) := by decide +kernel
theorem dL_told_313 : decode cL_told 313 = .ok (.iconst 1, 1) := by decide +kernel
theorem dL_told_314 : decode cL_told 314 = .ok (.aload_n 3, 1) := by decide +kernel
theorem dL_told_315 : decode cL_told 315 = .ok (.invokestatic 8, 3) := by decide +kernel
theorem dL_told_318 : decode cL_told 318 = .ok (.if_icmp .eq 5, 3) := by decide +kernel
theorem dL_told_321 : decode cL_told 321 = .ok (.iconst 0, 1) := by decide +kernel
theorem dL_told_322 : decode cL_told 322 = .ok (.ireturn, 1) := by decide +kernel
theorem dL_told_323 : decode cL_told 323 = .ok (.iload 15, 2) := by decide +kernel
end
section
theorem dL_told_325 : decode cL_told 325 = .ok (.ifCond .lt 103, 3) := by decide +kernel
theorem dL_told_328 : decode cL_told 328 = .ok (.iload 19, 2) := by decide +kernel
theorem dL_told_330 : decode cL_told 330 = .ok (.iload 14, 2) := by decide +kernel
theorem dL_told_332 : decode cL_told 332 = .ok (.if_icmp .le 96, 3) := by decide +kernel
theorem dL_told_335 : decode cL_told 335 = .ok (.aload_n 2, 1) := by decide +kernel
theorem dL_told_336 : decode cL_told 336 = .ok (.iconst 4, 1) := by decide +kernel
theorem dL_told_337 : decode cL_told 337 = .ok (.iload 19, 2) := by decide +kernel
theorem dL_told_339 : decode cL_told 339 = .ok (.iadd, 1) := by decide +kernel
theorem dL_told_340 : decode cL_told 340 = .ok (.iaload, 1) := by decide +kernel
theorem dL_told_341 : decode cL_told 341 = .ok (.ifCond .ge 6, 3) := by decide +kernel
theorem dL_told_344 : decode cL_told 344 = .ok (.goto 84, 3) := by decide +kernel
theorem dL_told_347 : decode cL_told 347 = .ok (.iinc 8 1, 3) := by decide +kernel
theorem dL_told_350 : decode cL_told 350 = .ok (.iload 9, 2) := by decide +kernel
theorem dL_told_352 : decode cL_told 352 = .ok (.iload 15, 2) := by decide +kernel
theorem dL_told_354 : decode cL_told 354 = .ok (.iload 18, 2) := by decide +kernel
theorem dL_told_356 : decode cL_told 356 = .ok (.iconst 0, 1) := by decide +kernel
theorem dL_told_357 : decode cL_told 357 = .ok (.aload_n 3, 1) := by decide +kernel
theorem dL_told_358 : decode cL_told 358 = .ok (.invokestatic 8, 3) := by decide +kernel
theorem dL_told_361 : decode cL_told 361 = .ok (.aload_n 2, 1) := by decide +kernel
theorem dL_told_362 : decode cL_told 362 = .ok (.iconst 4, 1) := by decide +kernel
theorem dL_told_363 : decode cL_told 363 = .ok (.iload 19, 2) := by decide +kernel
theorem dL_told_365 : decode cL_told 365 = .ok (.iadd, 1) := by decide +kernel
theorem dL_told_366 : decode cL_told 366 = .ok (.iaload, 1) := by decide +kernel
theorem dL_told_367 : decode cL_told 367 = .ok (.iload 18, 2) := by decide +kernel
theorem dL_told_369 : decode cL_told 369 = .ok (.iconst 2, 1) := by decide +kernel
theorem dL_told_370 : decode cL_told 370 = .ok (.iadd, 1) := by decide +kernel
theorem dL_told_371 : decode cL_told 371 = .ok (.iconst 3, 1) := by decide +kernel
theorem dL_told_372 : decode cL_told 372 = .ok (.iand, 1) := by decide +kernel
theorem dL_told_373 : decode cL_told 373 = .ok (.iconst 0, 1) := by decide +kernel
theorem dL_told_374 : decode cL_told 374 = .ok (.aload_n 3, 1) := by decide +kernel
theorem dL_told_375 : decode cL_told 375 = .ok (.invokestatic 8, 3) := by decide +kernel
theorem dL_told_378 : decode cL_told 378 = .ok (.if_icmp .ne 7, 3) := by decide +kernel
theorem dL_told_381 : decode cL_told 381 = .ok (.iconst 1, 1) := by decide +kernel
theorem dL_told_382 : decode cL_told 382 = .ok (.goto 4, 3) := by decide +kernel
theorem dL_told_385 : decode cL_told 385 = .ok (.iconst 0, 1) := by decide +kernel
theorem dL_told_386 : decode cL_told 386 = .ok (.iadd, 1) := by decide +kernel
theorem dL_told_387 : decode cL_told 387 = .ok (.istore 9, 2) := by decide +kernel
theorem dL_told_389 : decode cL_told 389 = .ok (.iload 10, 2) := by decide +kernel
theorem dL_told_391 : decode cL_told 391 = .ok (.iload 15, 2) := by decide +kernel
theorem dL_told_393 : decode cL_told 393 = .ok (.iload 18, 2) := by decide +kernel
theorem dL_told_395 : decode cL_told 395 = .ok (.iconst 1, 1) := by decide +kernel
theorem dL_told_396 : decode cL_told 396 = .ok (.aload_n 3, 1) := by decide +kernel
theorem dL_told_397 : decode cL_told 397 = .ok (.invokestatic 8, 3) := by decide +kernel
theorem dL_told_400 : decode cL_told 400 = .ok (.aload_n 2, 1) := by decide +kernel
theorem dL_told_401 : decode cL_told 401 = .ok (.iconst 4, 1) := by decide +kernel
theorem dL_told_402 : decode cL_told 402 = .ok (.iload 19, 2) := by decide +kernel
theorem dL_told_404 : decode cL_told 404 = .ok (.iadd, 1) := by decide +kernel
theorem dL_told_405 : decode cL_told 405 = .ok (.iaload, 1) := by decide +kernel
theorem dL_told_406 : decode cL_told 406 = .ok (.iload 18, 2) := by decide +kernel
theorem dL_told_408 : decode cL_told 408 = .ok (.iconst 2, 1) := by decide +kernel
theorem dL_told_409 : decode cL_told 409 = .ok (.iadd, 1) := by decide +kernel
theorem dL_told_410 : decode cL_told 410 = .ok (.iconst 3, 1) := by decide +kernel
theorem dL_told_411 : decode cL_told 411 = .ok (.iand, 1) := by decide +kernel
theorem dL_told_412 : decode cL_told 412 = .ok (.iconst 1, 1) := by decide +kernel
theorem dL_told_413 : decode cL_told 413 = .ok (.aload_n 3, 1) := by decide +kernel
theorem dL_told_414 : decode cL_told 414 = .ok (.invokestatic 8, 3) := by decide +kernel
theorem dL_told_417 : decode cL_told 417 = .ok (.if_icmp .ne 7, 3) := by decide +kernel
theorem dL_told_420 : decode cL_told 420 = .ok (.iconst 1, 1) := by decide +kernel
theorem dL_told_421 : decode cL_told 421 = .ok (.goto 4, 3) := by decide +kernel
theorem dL_told_424 : decode cL_told 424 = .ok (.iconst 0, 1) := by decide +kernel
theorem dL_told_425 : decode cL_told 425 = .ok (.iadd, 1) := by decide +kernel
theorem dL_told_426 : decode cL_told 426 = .ok (.istore 10, 2) := by decide +kernel
theorem dL_told_428 : decode cL_told 428 = .ok (.iinc 18 1, 3) := by decide +kernel
theorem dL_told_431 : decode cL_told 431 = .ok (.goto (-186), 3) := by decide +kernel
theorem dL_told_434 : decode cL_told 434 = .ok (.iinc 14 1, 3) := by decide +kernel
theorem dL_told_437 : decode cL_told 437 = .ok (.goto (-394), 3) := by decide +kernel
theorem dL_told_440 : decode cL_told 440 = .ok (.iconst 0, 1) := by decide +kernel
theorem dL_told_441 : decode cL_told 441 = .ok (.istore 14, 2) := by decide +kernel
theorem dL_told_443 : decode cL_told 443 = .ok (.iload 14, 2) := by decide +kernel
theorem dL_told_445 : decode cL_told 445 = .ok (.aload_n 2, 1) := by decide +kernel
theorem dL_told_446 : decode cL_told 446 = .ok (.iconst 3, 1) := by decide +kernel
theorem dL_told_447 : decode cL_told 447 = .ok (.iaload, 1) := by decide +kernel
theorem dL_told_448 : decode cL_told 448 = .ok (.if_icmp .ge 110, 3) := by decide +kernel
theorem dL_told_451 : decode cL_told 451 = .ok (.iconst 0, 1) := by decide +kernel
theorem dL_told_452 : decode cL_told 452 = .ok (.istore 15, 2) := by decide +kernel
theorem dL_told_454 : decode cL_told 454 = .ok (.iconst 0, 1) := by decide +kernel
theorem dL_told_455 : decode cL_told 455 = .ok (.istore 16, 2) := by decide +kernel
theorem dL_told_457 : decode cL_told 457 = .ok (.iconst 0, 1) := by decide +kernel
theorem dL_told_458 : decode cL_told 458 = .ok (.istore 17, 2) := by decide +kernel
theorem dL_told_460 : decode cL_told 460 = .ok (.iload 17, 2) := by decide +kernel
theorem dL_told_462 : decode cL_told 462 = .ok (.iconst 4, 1) := by decide +kernel
theorem dL_told_463 : decode cL_told 463 = .ok (.if_icmp .ge 47, 3) := by decide +kernel
theorem dL_told_466 : decode cL_told 466 = .ok (.bipush 10, 2) := by decide +kernel
theorem dL_told_468 : decode cL_told 468 = .ok (.iload 15, 2) := by decide +kernel
theorem dL_told_470 : decode cL_told 470 = .ok (.imul, 1) := by decide +kernel
theorem dL_told_471 : decode cL_told 471 = .ok (.aload_n 3, 1) := by decide +kernel
theorem dL_told_472 : decode cL_told 472 = .ok (.bipush 8, 2) := by decide +kernel
theorem dL_told_474 : decode cL_told 474 = .ok (.iload 14, 2) := by decide +kernel
theorem dL_told_476 : decode cL_told 476 = .ok (.imul, 1) := by decide +kernel
theorem dL_told_477 : decode cL_told 477 = .ok (.iload 17, 2) := by decide +kernel
end
section
theorem dL_told_479 : decode cL_told 479 = .ok (.iadd, 1) := by decide +kernel
theorem dL_told_480 : decode cL_told 480 = .ok (.iaload, 1) := by decide +kernel
theorem dL_told_481 : decode cL_told 481 = .ok (.iadd, 1) := by decide +kernel
theorem dL_told_482 : decode cL_told 482 = .ok (.istore 15, 2) := by decide +kernel
theorem dL_told_484 : decode cL_told 484 = .ok (.bipush 10, 2) := by decide +kernel
theorem dL_told_486 : decode cL_told 486 = .ok (.iload 16, 2) := by decide +kernel
theorem dL_told_488 : decode cL_told 488 = .ok (.imul, 1) := by decide +kernel
theorem dL_told_489 : decode cL_told 489 = .ok (.aload_n 3, 1) := by decide +kernel
theorem dL_told_490 : decode cL_told 490 = .ok (.bipush 8, 2) := by decide +kernel
theorem dL_told_492 : decode cL_told 492 = .ok (.iload 14, 2) := by decide +kernel
theorem dL_told_494 : decode cL_told 494 = .ok (.imul, 1) := by decide +kernel
theorem dL_told_495 : decode cL_told 495 = .ok (.iconst 4, 1) := by decide +kernel
theorem dL_told_496 : decode cL_told 496 = .ok (.iadd, 1) := by decide +kernel
theorem dL_told_497 : decode cL_told 497 = .ok (.iload 17, 2) := by decide +kernel
theorem dL_told_499 : decode cL_told 499 = .ok (.iadd, 1) := by decide +kernel
theorem dL_told_500 : decode cL_told 500 = .ok (.iaload, 1) := by decide +kernel
theorem dL_told_501 : decode cL_told 501 = .ok (.iadd, 1) := by decide +kernel
theorem dL_told_502 : decode cL_told 502 = .ok (.istore 16, 2) := by decide +kernel
theorem dL_told_504 : decode cL_told 504 = .ok (.iinc 17 1, 3) := by decide +kernel
theorem dL_told_507 : decode cL_told 507 = .ok (.goto (-47), 3) := by decide +kernel
theorem dL_told_510 : decode cL_told 510 = .ok (.aload_n 0, 1) := by decide +kernel
theorem dL_told_511 : decode cL_told 511 = .ok (.iload 14, 2) := by decide +kernel
theorem dL_told_513 : decode cL_told 513 = .ok (.iconst 0, 1) := by decide +kernel
theorem dL_told_514 : decode cL_told 514 = .ok (.invokevirtual 38, 3) := by decide +kernel
theorem dL_told_517 : decode cL_told 517 = .ok (.iload 15, 2) := by decide +kernel
theorem dL_told_519 : decode cL_told 519 = .ok (.if_icmp .ne 31, 3) := by decide +kernel
theorem dL_told_522 : decode cL_told 522 = .ok (.aload_n 0, 1) := by decide +kernel
theorem dL_told_523 : decode cL_told 523 = .ok (.iload 14, 2) := by decide +kernel
theorem dL_told_525 : decode cL_told 525 = .ok (.iconst 1, 1) := by decide +kernel
theorem dL_told_526 : decode cL_told 526 = .ok (.invokevirtual 38, 3) := by decide +kernel
theorem dL_told_529 : decode cL_told 529 = .ok (.iload 16, 2) := by decide +kernel
theorem dL_told_531 : decode cL_told 531 = .ok (.if_icmp .ne 19, 3) := by decide +kernel
theorem dL_told_534 : decode cL_told 534 = .ok (.aload_n 0, 1) := by decide +kernel
theorem dL_told_535 : decode cL_told 535 = .ok (.iload 14, 2) := by decide +kernel
theorem dL_told_537 : decode cL_told 537 = .ok (.iconst 2, 1) := by decide +kernel
theorem dL_told_538 : decode cL_told 538 = .ok (.invokevirtual 38, 3) := by decide +kernel
theorem dL_told_541 : decode cL_told 541 = .ok (.iload 14, 2) := by decide +kernel
theorem dL_told_543 : decode cL_told 543 = .ok (.aload_n 2, 1) := by decide +kernel
theorem dL_told_544 : decode cL_told 544 = .ok (.invokestatic 18, 3) := by decide +kernel
theorem dL_told_547 : decode cL_told 547 = .ok (.if_icmp .eq 5, 3) := by decide +kernel
theorem dL_told_550 : decode cL_told 550 = .ok (.iconst 0, 1) := by decide +kernel
theorem dL_told_551 : decode cL_told 551 = .ok (.ireturn, 1) := by decide +kernel
theorem dL_told_552 : decode cL_told 552 = .ok (.iinc 14 1, 3) := by decide +kernel
theorem dL_told_555 : decode cL_told 555 = .ok (.goto (-112), 3) := by decide +kernel
theorem dL_told_558 : decode cL_told 558 = .ok (.aload_n 2, 1) := by decide +kernel
theorem dL_told_559 : decode cL_told 559 = .ok (.iconst 3, 1) := by decide +kernel
theorem dL_told_560 : decode cL_told 560 = .ok (.iaload, 1) := by decide +kernel
theorem dL_told_561 : decode cL_told 561 = .ok (.ifCond .le 48, 3) := by decide +kernel
theorem dL_told_564 : decode cL_told 564 = .ok (.iload_n 1, 1) := by decide +kernel
theorem dL_told_565 : decode cL_told 565 = .ok (.bipush 8, 2) := by decide +kernel
theorem dL_told_567 : decode cL_told 567 = .ok (.aload_n 2, 1) := by decide +kernel
theorem dL_told_568 : decode cL_told 568 = .ok (.iconst 3, 1) := by decide +kernel
theorem dL_told_569 : decode cL_told 569 = .ok (.iaload, 1) := by decide +kernel
theorem dL_told_570 : decode cL_told 570 = .ok (.imul, 1) := by decide +kernel
theorem dL_told_571 : decode cL_told 571 = .ok (.invokestatic 41, 3) := by decide +kernel
theorem dL_told_574 : decode cL_told 574 = .ok (.istore 14, 2) := by decide +kernel
theorem dL_told_576 : decode cL_told 576 = .ok (.iload_n 1, 1) := by decide +kernel
theorem dL_told_577 : decode cL_told 577 = .ok (.bipush 6, 2) := by decide +kernel
theorem dL_told_579 : decode cL_told 579 = .ok (.ishr, 1) := by decide +kernel
theorem dL_told_580 : decode cL_told 580 = .ok (.iload 5, 2) := by decide +kernel
theorem dL_told_582 : decode cL_told 582 = .ok (.invokestatic 41, 3) := by decide +kernel
theorem dL_told_585 : decode cL_told 585 = .ok (.istore 15, 2) := by decide +kernel
theorem dL_told_587 : decode cL_told 587 = .ok (.aload_n 0, 1) := by decide +kernel
theorem dL_told_588 : decode cL_told 588 = .ok (.iload 15, 2) := by decide +kernel
theorem dL_told_590 : decode cL_told 590 = .ok (.iload 14, 2) := by decide +kernel
theorem dL_told_592 : decode cL_told 592 = .ok (.invokevirtual 44, 3) := by decide +kernel
theorem dL_told_595 : decode cL_told 595 = .ok (.iload 15, 2) := by decide +kernel
theorem dL_told_597 : decode cL_told 597 = .ok (.iload 14, 2) := by decide +kernel
theorem dL_told_599 : decode cL_told 599 = .ok (.aload_n 2, 1) := by decide +kernel
theorem dL_told_600 : decode cL_told 600 = .ok (.aload_n 3, 1) := by decide +kernel
theorem dL_told_601 : decode cL_told 601 = .ok (.invokestatic 26, 3) := by decide +kernel
theorem dL_told_604 : decode cL_told 604 = .ok (.if_icmp .eq 5, 3) := by decide +kernel
theorem dL_told_607 : decode cL_told 607 = .ok (.iconst 0, 1) := by decide +kernel
theorem dL_told_608 : decode cL_told 608 = .ok (.ireturn, 1) := by decide +kernel
theorem dL_told_609 : decode cL_told 609 = .ok (.iconst 1, 1) := by decide +kernel
theorem dL_told_610 : decode cL_told 610 = .ok (.iload_n 1, 1) := by decide +kernel
theorem dL_told_611 : decode cL_told 611 = .ok (.iconst 3, 1) := by decide +kernel
theorem dL_told_612 : decode cL_told 612 = .ok (.ishr, 1) := by decide +kernel
theorem dL_told_613 : decode cL_told 613 = .ok (.iconst 4, 1) := by decide +kernel
theorem dL_told_614 : decode cL_told 614 = .ok (.invokestatic 41, 3) := by decide +kernel
theorem dL_told_617 : decode cL_told 617 = .ok (.iadd, 1) := by decide +kernel
theorem dL_told_618 : decode cL_told 618 = .ok (.istore 14, 2) := by decide +kernel
theorem dL_told_620 : decode cL_told 620 = .ok (.iload 14, 2) := by decide +kernel
theorem dL_told_622 : decode cL_told 622 = .ok (.aload_n 2, 1) := by decide +kernel
theorem dL_told_623 : decode cL_told 623 = .ok (.aload_n 3, 1) := by decide +kernel
theorem dL_told_624 : decode cL_told 624 = .ok (.aload 4, 2) := by decide +kernel
theorem dL_told_626 : decode cL_told 626 = .ok (.invokestatic 46, 3) := by decide +kernel
theorem dL_told_629 : decode cL_told 629 = .ok (.aload_n 0, 1) := by decide +kernel
theorem dL_told_630 : decode cL_told 630 = .ok (.iload 14, 2) := by decide +kernel
theorem dL_told_632 : decode cL_told 632 = .ok (.iconst 0, 1) := by decide +kernel
end
section
theorem dL_told_633 : decode cL_told 633 = .ok (.invokevirtual 50, 3) := by decide +kernel
theorem dL_told_636 : decode cL_told 636 = .ok (.aload 4, 2) := by decide +kernel
theorem dL_told_638 : decode cL_told 638 = .ok (.iconst 0, 1) := by decide +kernel
theorem dL_told_639 : decode cL_told 639 = .ok (.iaload, 1) := by decide +kernel
theorem dL_told_640 : decode cL_told 640 = .ok (.if_icmp .ne 31, 3) := by decide +kernel
theorem dL_told_643 : decode cL_told 643 = .ok (.aload_n 0, 1) := by decide +kernel
theorem dL_told_644 : decode cL_told 644 = .ok (.iload 14, 2) := by decide +kernel
theorem dL_told_646 : decode cL_told 646 = .ok (.iconst 1, 1) := by decide +kernel
theorem dL_told_647 : decode cL_told 647 = .ok (.invokevirtual 50, 3) := by decide +kernel
theorem dL_told_650 : decode cL_told 650 = .ok (.aload 4, 2) := by decide +kernel
theorem dL_told_652 : decode cL_told 652 = .ok (.iconst 1, 1) := by decide +kernel
theorem dL_told_653 : decode cL_told 653 = .ok (.iaload, 1) := by decide +kernel
theorem dL_told_654 : decode cL_told 654 = .ok (.if_icmp .ne 17, 3) := by decide +kernel
theorem dL_told_657 : decode cL_told 657 = .ok (.aload_n 0, 1) := by decide +kernel
theorem dL_told_658 : decode cL_told 658 = .ok (.iload 14, 2) := by decide +kernel
theorem dL_told_660 : decode cL_told 660 = .ok (.iconst 2, 1) := by decide +kernel
theorem dL_told_661 : decode cL_told 661 = .ok (.invokevirtual 50, 3) := by decide +kernel
theorem dL_told_664 : decode cL_told 664 = .ok (.aload 4, 2) := by decide +kernel
theorem dL_told_666 : decode cL_told 666 = .ok (.iconst 2, 1) := by decide +kernel
theorem dL_told_667 : decode cL_told 667 = .ok (.iaload, 1) := by decide +kernel
theorem dL_told_668 : decode cL_told 668 = .ok (.if_icmp .eq 5, 3) := by decide +kernel
theorem dL_told_671 : decode cL_told 671 = .ok (.iconst 0, 1) := by decide +kernel
theorem dL_told_672 : decode cL_told 672 = .ok (.ireturn, 1) := by decide +kernel
theorem dL_told_673 : decode cL_told 673 = .ok (.aload_n 0, 1) := by decide +kernel
theorem dL_told_674 : decode cL_told 674 = .ok (.invokevirtual 53, 3) := by decide +kernel
theorem dL_told_677 : decode cL_told 677 = .ok (.iload 8, 2) := by decide +kernel
theorem dL_told_679 : decode cL_told 679 = .ok (.ifCond .ne 7, 3) := by decide +kernel
theorem dL_told_682 : decode cL_told 682 = .ok (.dconst 1, 1) := by decide +kernel
theorem dL_told_683 : decode cL_told 683 = .ok (.goto 17, 3) := by decide +kernel
theorem dL_told_686 : decode cL_told 686 = .ok (.dconst 1, 1) := by decide +kernel
theorem dL_told_687 : decode cL_told 687 = .ok (.iload 9, 2) := by decide +kernel
theorem dL_told_689 : decode cL_told 689 = .ok (.iload 10, 2) := by decide +kernel
theorem dL_told_691 : decode cL_told 691 = .ok (.iadd, 1) := by decide +kernel
theorem dL_told_692 : decode cL_told 692 = .ok (.i2d, 1) := by decide +kernel
theorem dL_told_693 : decode cL_told 693 = .ok (.dmul, 1) := by decide +kernel
theorem dL_told_694 : decode cL_told 694 = .ok (.iconst 2, 1) := by decide +kernel
theorem dL_told_695 : decode cL_told 695 = .ok (.iload 8, 2) := by decide +kernel
theorem dL_told_697 : decode cL_told 697 = .ok (.imul, 1) := by decide +kernel
theorem dL_told_698 : decode cL_told 698 = .ok (.i2d, 1) := by decide +kernel
theorem dL_told_699 : decode cL_told 699 = .ok (.ddiv, 1) := by decide +kernel
theorem dL_told_700 : decode cL_told 700 = .ok (.dcmp .l, 1) := by decide +kernel
theorem dL_told_701 : decode cL_told 701 = .ok (.ifCond .eq 5, 3) := by decide +kernel
theorem dL_told_704 : decode cL_told 704 = .ok (.iconst 0, 1) := by decide +kernel
theorem dL_told_705 : decode cL_told 705 = .ok (.ireturn, 1) := by decide +kernel
theorem dL_told_706 : decode cL_told 706 = .ok (.aload_n 0, 1) := by decide +kernel
theorem dL_told_707 : decode cL_told 707 = .ok (.invokevirtual 57, 3) := by decide +kernel
theorem dL_told_710 : decode cL_told 710 = .ok (.iload 12, 2) := by decide +kernel
theorem dL_told_712 : decode cL_told 712 = .ok (.if_icmp .ne 104, 3) := by decide +kernel
theorem dL_told_715 : decode cL_told 715 = .ok (.aload_n 0, 1) := by decide +kernel
theorem dL_told_716 : decode cL_told 716 = .ok (.iconst 0, 1) := by decide +kernel
theorem dL_told_717 : decode cL_told 717 = .ok (.invokevirtual 61, 3) := by decide +kernel
theorem dL_told_720 : decode cL_told 720 = .ok (.aload_n 2, 1) := by decide +kernel
theorem dL_told_721 : decode cL_told 721 = .ok (.iconst 0, 1) := by decide +kernel
theorem dL_told_722 : decode cL_told 722 = .ok (.iaload, 1) := by decide +kernel
theorem dL_told_723 : decode cL_told 723 = .ok (.if_icmp .ne 93, 3) := by decide +kernel
theorem dL_told_726 : decode cL_told 726 = .ok (.aload_n 0, 1) := by decide +kernel
theorem dL_told_727 : decode cL_told 727 = .ok (.iconst 1, 1) := by decide +kernel
theorem dL_told_728 : decode cL_told 728 = .ok (.invokevirtual 61, 3) := by decide +kernel
theorem dL_told_731 : decode cL_told 731 = .ok (.aload_n 2, 1) := by decide +kernel
theorem dL_told_732 : decode cL_told 732 = .ok (.iconst 1, 1) := by decide +kernel
theorem dL_told_733 : decode cL_told 733 = .ok (.iaload, 1) := by decide +kernel
theorem dL_told_734 : decode cL_told 734 = .ok (.if_icmp .ne 82, 3) := by decide +kernel
theorem dL_told_737 : decode cL_told 737 = .ok (.aload_n 0, 1) := by decide +kernel
theorem dL_told_738 : decode cL_told 738 = .ok (.iconst 2, 1) := by decide +kernel
theorem dL_told_739 : decode cL_told 739 = .ok (.invokevirtual 61, 3) := by decide +kernel
theorem dL_told_742 : decode cL_told 742 = .ok (.aload_n 2, 1) := by decide +kernel
theorem dL_told_743 : decode cL_told 743 = .ok (.iconst 3, 1) := by decide +kernel
theorem dL_told_744 : decode cL_told 744 = .ok (.iaload, 1) := by decide +kernel
theorem dL_told_745 : decode cL_told 745 = .ok (.if_icmp .ne 71, 3) := by decide +kernel
theorem dL_told_748 : decode cL_told 748 = .ok (.aload_n 0, 1) := by decide +kernel
theorem dL_told_749 : decode cL_told 749 = .ok (.iconst 3, 1) := by decide +kernel
theorem dL_told_750 : decode cL_told 750 = .ok (.invokevirtual 61, 3) := by decide +kernel
theorem dL_told_753 : decode cL_told 753 = .ok (.iload 6, 2) := by decide +kernel
theorem dL_told_755 : decode cL_told 755 = .ok (.if_icmp .ne 61, 3) := by decide +kernel
theorem dL_told_758 : decode cL_told 758 = .ok (.aload_n 0, 1) := by decide +kernel
theorem dL_told_759 : decode cL_told 759 = .ok (.iconst 4, 1) := by decide +kernel
theorem dL_told_760 : decode cL_told 760 = .ok (.invokevirtual 61, 3) := by decide +kernel
theorem dL_told_763 : decode cL_told 763 = .ok (.iload 7, 2) := by decide +kernel
theorem dL_told_765 : decode cL_told 765 = .ok (.if_icmp .ne 51, 3) := by decide +kernel
theorem dL_told_768 : decode cL_told 768 = .ok (.aload_n 0, 1) := by decide +kernel
theorem dL_told_769 : decode cL_told 769 = .ok (.iconst 5, 1) := by decide +kernel
theorem dL_told_770 : decode cL_told 770 = .ok (.invokevirtual 61, 3) := by decide +kernel
theorem dL_told_773 : decode cL_told 773 = .ok (.aload_n 2, 1) := by decide +kernel
theorem dL_told_774 : decode cL_told 774 = .ok (.iconst 2, 1) := by decide +kernel
theorem dL_told_775 : decode cL_told 775 = .ok (.iaload, 1) := by decide +kernel
theorem dL_told_776 : decode cL_told 776 = .ok (.if_icmp .ne 40, 3) := by decide +kernel
theorem dL_told_779 : decode cL_told 779 = .ok (.aload_n 0, 1) := by decide +kernel
theorem dL_told_780 : decode cL_told 780 = .ok (.bipush 6, 2) := by decide +kernel
theorem dL_told_782 : decode cL_told 782 = .ok (.invokevirtual 61, 3) := by decide +kernel
theorem dL_told_785 : decode cL_told 785 = .ok (.iload 9, 2) := by decide +kernel
end
section
theorem dL_told_787 : decode cL_told 787 = .ok (.if_icmp .ne 29, 3) := by decide +kernel
theorem dL_told_790 : decode cL_told 790 = .ok (.aload_n 0, 1) := by decide +kernel
theorem dL_told_791 : decode cL_told 791 = .ok (.bipush 7, 2) := by decide +kernel
theorem dL_told_793 : decode cL_told 793 = .ok (.invokevirtual 61, 3) := by decide +kernel
theorem dL_told_796 : decode cL_told 796 = .ok (.iload 10, 2) := by decide +kernel
theorem dL_told_798 : decode cL_told 798 = .ok (.if_icmp .ne 18, 3) := by decide +kernel
theorem dL_told_801 : decode cL_told 801 = .ok (.aload_n 0, 1) := by decide +kernel
theorem dL_told_802 : decode cL_told 802 = .ok (.bipush 8, 2) := by decide +kernel
theorem dL_told_804 : decode cL_told 804 = .ok (.invokevirtual 61, 3) := by decide +kernel
theorem dL_told_807 : decode cL_told 807 = .ok (.iload 11, 2) := by decide +kernel
theorem dL_told_809 : decode cL_told 809 = .ok (.if_icmp .ne 7, 3) := by decide +kernel
theorem dL_told_812 : decode cL_told 812 = .ok (.iconst 1, 1) := by decide +kernel
theorem dL_told_813 : decode cL_told 813 = .ok (.goto 4, 3) := by decide +kernel
theorem dL_told_816 : decode cL_told 816 = .ok (.iconst 0, 1) := by decide +kernel
theorem dL_told_817 : decode cL_told 817 = .ok (.ireturn, 1) := by decide +kernel
theorem dL_act_0 : decode cL_act 0 = .ok (.aload 4, 2) := by decide +kernel
theorem dL_act_2 : decode cL_act 2 = .ok (.iconst 0, 1) := by decide +kernel
theorem dL_act_3 : decode cL_act 3 = .ok (.iaload, 1) := by decide +kernel
theorem dL_act_4 : decode cL_act 4 = .ok (.aload 4, 2) := by decide +kernel
theorem dL_act_6 : decode cL_act 6 = .ok (.iconst 1, 1) := by decide +kernel
theorem dL_act_7 : decode cL_act 7 = .ok (.iaload, 1) := by decide +kernel
theorem dL_act_8 : decode cL_act 8 = .ok (.imul, 1) := by decide +kernel
theorem dL_act_9 : decode cL_act 9 = .ok (.istore 6, 2) := by decide +kernel
theorem dL_act_11 : decode cL_act 11 = .ok (.iload_n 1, 1) := by decide +kernel
theorem dL_act_12 : decode cL_act 12 = .ok (.ifCond .eq 15, 3) := by decide +kernel
theorem dL_act_15 : decode cL_act 15 = .ok (.iload_n 1, 1) := by decide +kernel
theorem dL_act_16 : decode cL_act 16 = .ok (.iconst 5, 1) := by decide +kernel
theorem dL_act_17 : decode cL_act 17 = .ok (.if_icmp .ge 151, 3) := by decide +kernel
theorem dL_act_20 : decode cL_act 20 = .ok (.aload 4, 2) := by decide +kernel
theorem dL_act_22 : decode cL_act 22 = .ok (.iconst 3, 1) := by decide +kernel
theorem dL_act_23 : decode cL_act 23 = .ok (.iaload, 1) := by decide +kernel
theorem dL_act_24 : decode cL_act 24 = .ok (.ifCond .ne 144, 3) := by decide +kernel
theorem dL_act_27 : decode cL_act 27 = .ok (.aload 4, 2) := by decide +kernel
theorem dL_act_29 : decode cL_act 29 = .ok (.iconst 0, 1) := by decide +kernel
theorem dL_act_30 : decode cL_act 30 = .ok (.iconst 1, 1) := by decide +kernel
theorem dL_act_31 : decode cL_act 31 = .ok (.iload_n 2, 1) := by decide +kernel
theorem dL_act_32 : decode cL_act 32 = .ok (.iconst 2, 1) := by decide +kernel
theorem dL_act_33 : decode cL_act 33 = .ok (.invokestatic 41, 3) := by decide +kernel
theorem dL_act_36 : decode cL_act 36 = .ok (.iadd, 1) := by decide +kernel
theorem dL_act_37 : decode cL_act 37 = .ok (.iastore, 1) := by decide +kernel
theorem dL_act_38 : decode cL_act 38 = .ok (.aload 4, 2) := by decide +kernel
theorem dL_act_40 : decode cL_act 40 = .ok (.iconst 1, 1) := by decide +kernel
theorem dL_act_41 : decode cL_act 41 = .ok (.iconst 1, 1) := by decide +kernel
theorem dL_act_42 : decode cL_act 42 = .ok (.iload_n 2, 1) := by decide +kernel
theorem dL_act_43 : decode cL_act 43 = .ok (.iconst 1, 1) := by decide +kernel
theorem dL_act_44 : decode cL_act 44 = .ok (.ishr, 1) := by decide +kernel
theorem dL_act_45 : decode cL_act 45 = .ok (.iconst 3, 1) := by decide +kernel
theorem dL_act_46 : decode cL_act 46 = .ok (.invokestatic 41, 3) := by decide +kernel
theorem dL_act_49 : decode cL_act 49 = .ok (.iadd, 1) := by decide +kernel
theorem dL_act_50 : decode cL_act 50 = .ok (.iastore, 1) := by decide +kernel
theorem dL_act_51 : decode cL_act 51 = .ok (.iconst 0, 1) := by decide +kernel
theorem dL_act_52 : decode cL_act 52 = .ok (.istore 7, 2) := by decide +kernel
theorem dL_act_54 : decode cL_act 54 = .ok (.iload 7, 2) := by decide +kernel
theorem dL_act_56 : decode cL_act 56 = .ok (.bipush 12, 2) := by decide +kernel
theorem dL_act_58 : decode cL_act 58 = .ok (.if_icmp .ge 26, 3) := by decide +kernel
theorem dL_act_61 : decode cL_act 61 = .ok (.aload 4, 2) := by decide +kernel
theorem dL_act_63 : decode cL_act 63 = .ok (.iconst 4, 1) := by decide +kernel
theorem dL_act_64 : decode cL_act 64 = .ok (.iload 7, 2) := by decide +kernel
theorem dL_act_66 : decode cL_act 66 = .ok (.iadd, 1) := by decide +kernel
theorem dL_act_67 : decode cL_act 67 = .ok (.iconst (-1), 1) := by decide +kernel
theorem dL_act_68 : decode cL_act 68 = .ok (.iastore, 1) := by decide +kernel
theorem dL_act_69 : decode cL_act 69 = .ok (.aload 4, 2) := by decide +kernel
theorem dL_act_71 : decode cL_act 71 = .ok (.bipush 16, 2) := by decide +kernel
theorem dL_act_73 : decode cL_act 73 = .ok (.iload 7, 2) := by decide +kernel
theorem dL_act_75 : decode cL_act 75 = .ok (.iadd, 1) := by decide +kernel
theorem dL_act_76 : decode cL_act 76 = .ok (.iconst 0, 1) := by decide +kernel
theorem dL_act_77 : decode cL_act 77 = .ok (.iastore, 1) := by decide +kernel
theorem dL_act_78 : decode cL_act 78 = .ok (.iinc 7 1, 3) := by decide +kernel
theorem dL_act_81 : decode cL_act 81 = .ok (.goto (-27), 3) := by decide +kernel
theorem dL_act_84 : decode cL_act 84 = .ok (.aload_n 0, 1) := by decide +kernel
theorem dL_act_85 : decode cL_act 85 = .ok (.aload 4, 2) := by decide +kernel
theorem dL_act_87 : decode cL_act 87 = .ok (.iconst 0, 1) := by decide +kernel
theorem dL_act_88 : decode cL_act 88 = .ok (.iaload, 1) := by decide +kernel
theorem dL_act_89 : decode cL_act 89 = .ok (.aload 4, 2) := by decide +kernel
theorem dL_act_91 : decode cL_act 91 = .ok (.iconst 1, 1) := by decide +kernel
theorem dL_act_92 : decode cL_act 92 = .ok (.iaload, 1) := by decide +kernel
theorem dL_act_93 : decode cL_act 93 = .ok (.invokevirtual 65, 3) := by decide +kernel
theorem dL_act_96 : decode cL_act 96 = .ok (.aload 4, 2) := by decide +kernel
theorem dL_act_98 : decode cL_act 98 = .ok (.iconst 0, 1) := by decide +kernel
theorem dL_act_99 : decode cL_act 99 = .ok (.iaload, 1) := by decide +kernel
theorem dL_act_100 : decode cL_act 100 = .ok (.aload 4, 2) := by decide +kernel
theorem dL_act_102 : decode cL_act 102 = .ok (.iconst 1, 1) := by decide +kernel
theorem dL_act_103 : decode cL_act 103 = .ok (.iaload, 1) := by decide +kernel
theorem dL_act_104 : decode cL_act 104 = .ok (.imul, 1) := by decide +kernel
theorem dL_act_105 : decode cL_act 105 = .ok (.if_icmp .eq 5, 3) := by decide +kernel
theorem dL_act_108 : decode cL_act 108 = .ok (.iconst 0, 1) := by decide +kernel
theorem dL_act_109 : decode cL_act 109 = .ok (.ireturn, 1) := by decide +kernel
theorem dL_act_110 : decode cL_act 110 = .ok (.iconst 1, 1) := by decide +kernel
theorem dL_act_111 : decode cL_act 111 = .ok (.iload_n 3, 1) := by decide +kernel
theorem dL_act_112 : decode cL_act 112 = .ok (.ldc 68, 2) := by decide +kernel
end
section
theorem dL_act_114 : decode cL_act 114 = .ok (.invokestatic 41, 3) := by decide +kernel
theorem dL_act_117 : decode cL_act 117 = .ok (.iadd, 1) := by decide +kernel
theorem dL_act_118 : decode cL_act 118 = .ok (.istore 7, 2) := by decide +kernel
theorem dL_act_120 : decode cL_act 120 = .ok (.iconst 1, 1) := by decide +kernel
theorem dL_act_121 : decode cL_act 121 = .ok (.iload_n 3, 1) := by decide +kernel
theorem dL_act_122 : decode cL_act 122 = .ok (.iconst 4, 1) := by decide +kernel
theorem dL_act_123 : decode cL_act 123 = .ok (.ishr, 1) := by decide +kernel
theorem dL_act_124 : decode cL_act 124 = .ok (.iconst 4, 1) := by decide +kernel
theorem dL_act_125 : decode cL_act 125 = .ok (.invokestatic 41, 3) := by decide +kernel
theorem dL_act_128 : decode cL_act 128 = .ok (.iadd, 1) := by decide +kernel
theorem dL_act_129 : decode cL_act 129 = .ok (.istore 8, 2) := by decide +kernel
theorem dL_act_131 : decode cL_act 131 = .ok (.iload 7, 2) := by decide +kernel
theorem dL_act_133 : decode cL_act 133 = .ok (.iload 8, 2) := by decide +kernel
theorem dL_act_135 : decode cL_act 135 = .ok (.aload 4, 2) := by decide +kernel
theorem dL_act_137 : decode cL_act 137 = .ok (.aload 5, 2) := by decide +kernel
theorem dL_act_139 : decode cL_act 139 = .ok (.invokestatic 69, 3) := by decide +kernel
theorem dL_act_142 : decode cL_act 142 = .ok (.aload_n 0, 1) := by decide +kernel
theorem dL_act_143 : decode cL_act 143 = .ok (.iload 7, 2) := by decide +kernel
theorem dL_act_145 : decode cL_act 145 = .ok (.iload 8, 2) := by decide +kernel
theorem dL_act_147 : decode cL_act 147 = .ok (.invokevirtual 73, 3) := by decide +kernel
theorem dL_act_150 : decode cL_act 150 = .ok (.aload 4, 2) := by decide +kernel
theorem dL_act_152 : decode cL_act 152 = .ok (.iconst 0, 1) := by decide +kernel
theorem dL_act_153 : decode cL_act 153 = .ok (.iaload, 1) := by decide +kernel
theorem dL_act_154 : decode cL_act 154 = .ok (.aload 4, 2) := by decide +kernel
theorem dL_act_156 : decode cL_act 156 = .ok (.iconst 1, 1) := by decide +kernel
theorem dL_act_157 : decode cL_act 157 = .ok (.iaload, 1) := by decide +kernel
theorem dL_act_158 : decode cL_act 158 = .ok (.imul, 1) := by decide +kernel
theorem dL_act_159 : decode cL_act 159 = .ok (.if_icmp .ne 7, 3) := by decide +kernel
theorem dL_act_162 : decode cL_act 162 = .ok (.iconst 1, 1) := by decide +kernel
theorem dL_act_163 : decode cL_act 163 = .ok (.goto 4, 3) := by decide +kernel
theorem dL_act_166 : decode cL_act 166 = .ok (.iconst 0, 1) := by decide +kernel
theorem dL_act_167 : decode cL_act 167 = .ok (.ireturn, 1) := by decide +kernel
theorem dL_act_168 : decode cL_act 168 = .ok (.iload_n 1, 1) := by decide +kernel
theorem dL_act_169 : decode cL_act 169 = .ok (.iconst 5, 1) := by decide +kernel
theorem dL_act_170 : decode cL_act 170 = .ok (.if_icmp .ge 144, 3) := by decide +kernel
theorem dL_act_173 : decode cL_act 173 = .ok (.iload_n 2, 1) := by decide +kernel
theorem dL_act_174 : decode cL_act 174 = .ok (.iconst 2, 1) := by decide +kernel
theorem dL_act_175 : decode cL_act 175 = .ok (.ishr, 1) := by decide +kernel
theorem dL_act_176 : decode cL_act 176 = .ok (.iload 6, 2) := by decide +kernel
theorem dL_act_178 : decode cL_act 178 = .ok (.invokestatic 41, 3) := by decide +kernel
theorem dL_act_181 : decode cL_act 181 = .ok (.istore 7, 2) := by decide +kernel
theorem dL_act_183 : decode cL_act 183 = .ok (.iconst 0, 1) := by decide +kernel
theorem dL_act_184 : decode cL_act 184 = .ok (.istore 8, 2) := by decide +kernel
theorem dL_act_186 : decode cL_act 186 = .ok (.iload 8, 2) := by decide +kernel
theorem dL_act_188 : decode cL_act 188 = .ok (.bipush 8, 2) := by decide +kernel
theorem dL_act_190 : decode cL_act 190 = .ok (.aload 4, 2) := by decide +kernel
theorem dL_act_192 : decode cL_act 192 = .ok (.iconst 3, 1) := by decide +kernel
theorem dL_act_193 : decode cL_act 193 = .ok (.iaload, 1) := by decide +kernel
theorem dL_act_194 : decode cL_act 194 = .ok (.imul, 1) := by decide +kernel
theorem dL_act_195 : decode cL_act 195 = .ok (.if_icmp .ge 117, 3) := by decide +kernel
theorem dL_act_198 : decode cL_act 198 = .ok (.iload_n 3, 1) := by decide +kernel
theorem dL_act_199 : decode cL_act 199 = .ok (.bipush 8, 2) := by decide +kernel
theorem dL_act_201 : decode cL_act 201 = .ok (.aload 4, 2) := by decide +kernel
theorem dL_act_203 : decode cL_act 203 = .ok (.iconst 3, 1) := by decide +kernel
theorem dL_act_204 : decode cL_act 204 = .ok (.iaload, 1) := by decide +kernel
theorem dL_act_205 : decode cL_act 205 = .ok (.imul, 1) := by decide +kernel
theorem dL_act_206 : decode cL_act 206 = .ok (.invokestatic 41, 3) := by decide +kernel
theorem dL_act_209 : decode cL_act 209 = .ok (.iload 8, 2) := by decide +kernel
theorem dL_act_211 : decode cL_act 211 = .ok (.iadd, 1) := by decide +kernel
theorem dL_act_212 : decode cL_act 212 = .ok (.bipush 8, 2) := by decide +kernel
theorem dL_act_214 : decode cL_act 214 = .ok (.aload 4, 2) := by decide +kernel
theorem dL_act_216 : decode cL_act 216 = .ok (.iconst 3, 1) := by decide +kernel
theorem dL_act_217 : decode cL_act 217 = .ok (.iaload, 1) := by decide +kernel
theorem dL_act_218 : decode cL_act 218 = .ok (.imul, 1) := by decide +kernel
theorem dL_act_219 : decode cL_act 219 = .ok (.irem, 1) := by decide +kernel
theorem dL_act_220 : decode cL_act 220 = .ok (.istore 9, 2) := by decide +kernel
theorem dL_act_222 : decode cL_act 222 = .ok (.iload 7, 2) := by decide +kernel
theorem dL_act_224 : decode cL_act 224 = .ok (.iload 9, 2) := by decide +kernel
theorem dL_act_226 : decode cL_act 226 = .ok (.aload 4, 2) := by decide +kernel
theorem dL_act_228 : decode cL_act 228 = .ok (.aload 5, 2) := by decide +kernel
theorem dL_act_230 : decode cL_act 230 = .ok (.invokestatic 26, 3) := by decide +kernel
theorem dL_act_233 : decode cL_act 233 = .ok (.ifCond .le 6, 3) := by decide +kernel
theorem dL_act_236 : decode cL_act 236 = .ok (.goto 70, 3) := by decide +kernel
theorem dL_act_239 : decode cL_act 239 = .ok (.aload 4, 2) := by decide +kernel
theorem dL_act_241 : decode cL_act 241 = .ok (.iconst 4, 1) := by decide +kernel
theorem dL_act_242 : decode cL_act 242 = .ok (.iload 7, 2) := by decide +kernel
theorem dL_act_244 : decode cL_act 244 = .ok (.iadd, 1) := by decide +kernel
theorem dL_act_245 : decode cL_act 245 = .ok (.iload 9, 2) := by decide +kernel
theorem dL_act_247 : decode cL_act 247 = .ok (.iastore, 1) := by decide +kernel
theorem dL_act_248 : decode cL_act 248 = .ok (.iconst 0, 1) := by decide +kernel
theorem dL_act_249 : decode cL_act 249 = .ok (.istore 10, 2) := by decide +kernel
theorem dL_act_251 : decode cL_act 251 = .ok (.iconst 0, 1) := by decide +kernel
theorem dL_act_252 : decode cL_act 252 = .ok (.istore 11, 2) := by decide +kernel
theorem dL_act_254 : decode cL_act 254 = .ok (.iload 11, 2) := by decide +kernel
theorem dL_act_256 : decode cL_act 256 = .ok (.iload 6, 2) := by decide +kernel
theorem dL_act_258 : decode cL_act 258 = .ok (.if_icmp .ge 29, 3) := by decide +kernel
theorem dL_act_261 : decode cL_act 261 = .ok (.iload 10, 2) := by decide +kernel
theorem dL_act_263 : decode cL_act 263 = .ok (.aload 4, 2) := by decide +kernel
theorem dL_act_265 : decode cL_act 265 = .ok (.iconst 4, 1) := by decide +kernel
theorem dL_act_266 : decode cL_act 266 = .ok (.iload 11, 2) := by decide +kernel
end
section
theorem dL_act_268 : decode cL_act 268 = .ok (.iadd, 1) := by decide +kernel
theorem dL_act_269 : decode cL_act 269 = .ok (.iaload, 1) := by decide +kernel
theorem dL_act_270 : decode cL_act 270 = .ok (.ifCond .ge 7, 3) := by decide +kernel
theorem dL_act_273 : decode cL_act 273 = .ok (.iconst 1, 1) := by decide +kernel
theorem dL_act_274 : decode cL_act 274 = .ok (.goto 4, 3) := by decide +kernel
theorem dL_act_277 : decode cL_act 277 = .ok (.iconst 0, 1) := by decide +kernel
theorem dL_act_278 : decode cL_act 278 = .ok (.iadd, 1) := by decide +kernel
theorem dL_act_279 : decode cL_act 279 = .ok (.istore 10, 2) := by decide +kernel
theorem dL_act_281 : decode cL_act 281 = .ok (.iinc 11 1, 3) := by decide +kernel
theorem dL_act_284 : decode cL_act 284 = .ok (.goto (-30), 3) := by decide +kernel
theorem dL_act_287 : decode cL_act 287 = .ok (.aload_n 0, 1) := by decide +kernel
theorem dL_act_288 : decode cL_act 288 = .ok (.iload 7, 2) := by decide +kernel
theorem dL_act_290 : decode cL_act 290 = .ok (.iload 9, 2) := by decide +kernel
theorem dL_act_292 : decode cL_act 292 = .ok (.invokevirtual 75, 3) := by decide +kernel
theorem dL_act_295 : decode cL_act 295 = .ok (.iload 10, 2) := by decide +kernel
theorem dL_act_297 : decode cL_act 297 = .ok (.if_icmp .ne 7, 3) := by decide +kernel
theorem dL_act_300 : decode cL_act 300 = .ok (.iconst 1, 1) := by decide +kernel
theorem dL_act_301 : decode cL_act 301 = .ok (.goto 4, 3) := by decide +kernel
theorem dL_act_304 : decode cL_act 304 = .ok (.iconst 0, 1) := by decide +kernel
theorem dL_act_305 : decode cL_act 305 = .ok (.ireturn, 1) := by decide +kernel
theorem dL_act_306 : decode cL_act 306 = .ok (.iinc 8 1, 3) := by decide +kernel
theorem dL_act_309 : decode cL_act 309 = .ok (.goto (-123), 3) := by decide +kernel
theorem dL_act_312 : decode cL_act 312 = .ok (.iconst 1, 1) := by decide +kernel
theorem dL_act_313 : decode cL_act 313 = .ok (.ireturn, 1) := by decide +kernel
theorem dL_act_314 : decode cL_act 314 = .ok (.iload_n 2, 1) := by decide +kernel
theorem dL_act_315 : decode cL_act 315 = .ok (.iload 6, 2) := by decide +kernel
theorem dL_act_317 : decode cL_act 317 = .ok (.invokestatic 41, 3) := by decide +kernel
theorem dL_act_320 : decode cL_act 320 = .ok (.istore 7, 2) := by decide +kernel
theorem dL_act_322 : decode cL_act 322 = .ok (.iload_n 1, 1) := by decide +kernel
theorem dL_act_323 : decode cL_act 323 = .ok (.iconst 5, 1) := by decide +kernel
theorem dL_act_324 : decode cL_act 324 = .ok (.if_icmp .ne 61, 3) := by decide +kernel
theorem dL_act_327 : decode cL_act 327 = .ok (.aload 4, 2) := by decide +kernel
theorem dL_act_329 : decode cL_act 329 = .ok (.iconst 4, 1) := by decide +kernel
theorem dL_act_330 : decode cL_act 330 = .ok (.iload 7, 2) := by decide +kernel
theorem dL_act_332 : decode cL_act 332 = .ok (.iadd, 1) := by decide +kernel
theorem dL_act_333 : decode cL_act 333 = .ok (.iaload, 1) := by decide +kernel
theorem dL_act_334 : decode cL_act 334 = .ok (.ifCond .lt 15, 3) := by decide +kernel
theorem dL_act_337 : decode cL_act 337 = .ok (.aload 4, 2) := by decide +kernel
theorem dL_act_339 : decode cL_act 339 = .ok (.bipush 16, 2) := by decide +kernel
theorem dL_act_341 : decode cL_act 341 = .ok (.iload 7, 2) := by decide +kernel
theorem dL_act_343 : decode cL_act 343 = .ok (.iadd, 1) := by decide +kernel
theorem dL_act_344 : decode cL_act 344 = .ok (.iaload, 1) := by decide +kernel
theorem dL_act_345 : decode cL_act 345 = .ok (.iconst 1, 1) := by decide +kernel
theorem dL_act_346 : decode cL_act 346 = .ok (.if_icmp .ne 5, 3) := by decide +kernel
theorem dL_act_349 : decode cL_act 349 = .ok (.iconst 1, 1) := by decide +kernel
theorem dL_act_350 : decode cL_act 350 = .ok (.ireturn, 1) := by decide +kernel
theorem dL_act_351 : decode cL_act 351 = .ok (.aload 4, 2) := by decide +kernel
theorem dL_act_353 : decode cL_act 353 = .ok (.iconst 4, 1) := by decide +kernel
theorem dL_act_354 : decode cL_act 354 = .ok (.iload 7, 2) := by decide +kernel
theorem dL_act_356 : decode cL_act 356 = .ok (.iadd, 1) := by decide +kernel
theorem dL_act_357 : decode cL_act 357 = .ok (.iaload, 1) := by decide +kernel
theorem dL_act_358 : decode cL_act 358 = .ok (.istore 8, 2) := by decide +kernel
theorem dL_act_360 : decode cL_act 360 = .ok (.aload 4, 2) := by decide +kernel
theorem dL_act_362 : decode cL_act 362 = .ok (.iconst 4, 1) := by decide +kernel
theorem dL_act_363 : decode cL_act 363 = .ok (.iload 7, 2) := by decide +kernel
theorem dL_act_365 : decode cL_act 365 = .ok (.iadd, 1) := by decide +kernel
theorem dL_act_366 : decode cL_act 366 = .ok (.iconst (-1), 1) := by decide +kernel
theorem dL_act_367 : decode cL_act 367 = .ok (.iastore, 1) := by decide +kernel
theorem dL_act_368 : decode cL_act 368 = .ok (.aload_n 0, 1) := by decide +kernel
theorem dL_act_369 : decode cL_act 369 = .ok (.iload 7, 2) := by decide +kernel
theorem dL_act_371 : decode cL_act 371 = .ok (.invokevirtual 78, 3) := by decide +kernel
theorem dL_act_374 : decode cL_act 374 = .ok (.iload 8, 2) := by decide +kernel
theorem dL_act_376 : decode cL_act 376 = .ok (.if_icmp .ne 7, 3) := by decide +kernel
theorem dL_act_379 : decode cL_act 379 = .ok (.iconst 1, 1) := by decide +kernel
theorem dL_act_380 : decode cL_act 380 = .ok (.goto 4, 3) := by decide +kernel
theorem dL_act_383 : decode cL_act 383 = .ok (.iconst 0, 1) := by decide +kernel
theorem dL_act_384 : decode cL_act 384 = .ok (.ireturn, 1) := by decide +kernel
theorem dL_act_385 : decode cL_act 385 = .ok (.iload_n 1, 1) := by decide +kernel
theorem dL_act_386 : decode cL_act 386 = .ok (.bipush 6, 2) := by decide +kernel
theorem dL_act_388 : decode cL_act 388 = .ok (.if_icmp .ne 56, 3) := by decide +kernel
theorem dL_act_391 : decode cL_act 391 = .ok (.aload 4, 2) := by decide +kernel
theorem dL_act_393 : decode cL_act 393 = .ok (.iconst 4, 1) := by decide +kernel
theorem dL_act_394 : decode cL_act 394 = .ok (.iload 7, 2) := by decide +kernel
theorem dL_act_396 : decode cL_act 396 = .ok (.iadd, 1) := by decide +kernel
theorem dL_act_397 : decode cL_act 397 = .ok (.iaload, 1) := by decide +kernel
theorem dL_act_398 : decode cL_act 398 = .ok (.ifCond .ge 5, 3) := by decide +kernel
theorem dL_act_401 : decode cL_act 401 = .ok (.iconst 1, 1) := by decide +kernel
theorem dL_act_402 : decode cL_act 402 = .ok (.ireturn, 1) := by decide +kernel
theorem dL_act_403 : decode cL_act 403 = .ok (.aload 4, 2) := by decide +kernel
theorem dL_act_405 : decode cL_act 405 = .ok (.bipush 16, 2) := by decide +kernel
theorem dL_act_407 : decode cL_act 407 = .ok (.iload 7, 2) := by decide +kernel
theorem dL_act_409 : decode cL_act 409 = .ok (.iadd, 1) := by decide +kernel
theorem dL_act_410 : decode cL_act 410 = .ok (.iconst 1, 1) := by decide +kernel
theorem dL_act_411 : decode cL_act 411 = .ok (.aload 4, 2) := by decide +kernel
theorem dL_act_413 : decode cL_act 413 = .ok (.bipush 16, 2) := by decide +kernel
theorem dL_act_415 : decode cL_act 415 = .ok (.iload 7, 2) := by decide +kernel
theorem dL_act_417 : decode cL_act 417 = .ok (.iadd, 1) := by decide +kernel
theorem dL_act_418 : decode cL_act 418 = .ok (.iaload, 1) := by decide +kernel
theorem dL_act_419 : decode cL_act 419 = .ok (.isub, 1) := by decide +kernel
theorem dL_act_420 : decode cL_act 420 = .ok (.iastore, 1) := by decide +kernel
end
section
theorem dL_act_421 : decode cL_act 421 = .ok (.aload_n 0, 1) := by decide +kernel
theorem dL_act_422 : decode cL_act 422 = .ok (.iload 7, 2) := by decide +kernel
theorem dL_act_424 : decode cL_act 424 = .ok (.invokevirtual 81, 3) := by decide +kernel
theorem dL_act_427 : decode cL_act 427 = .ok (.aload 4, 2) := by decide +kernel
theorem dL_act_429 : decode cL_act 429 = .ok (.bipush 16, 2) := by decide +kernel
theorem dL_act_431 : decode cL_act 431 = .ok (.iload 7, 2) := by decide +kernel
theorem dL_act_433 : decode cL_act 433 = .ok (.iadd, 1) := by decide +kernel
theorem dL_act_434 : decode cL_act 434 = .ok (.iaload, 1) := by decide +kernel
theorem dL_act_435 : decode cL_act 435 = .ok (.if_icmp .ne 7, 3) := by decide +kernel
theorem dL_act_438 : decode cL_act 438 = .ok (.iconst 1, 1) := by decide +kernel
theorem dL_act_439 : decode cL_act 439 = .ok (.goto 4, 3) := by decide +kernel
theorem dL_act_442 : decode cL_act 442 = .ok (.iconst 0, 1) := by decide +kernel
theorem dL_act_443 : decode cL_act 443 = .ok (.ireturn, 1) := by decide +kernel
theorem dL_act_444 : decode cL_act 444 = .ok (.iload_n 1, 1) := by decide +kernel
theorem dL_act_445 : decode cL_act 445 = .ok (.bipush 7, 2) := by decide +kernel
theorem dL_act_447 : decode cL_act 447 = .ok (.if_icmp .ne 37, 3) := by decide +kernel
theorem dL_act_450 : decode cL_act 450 = .ok (.aload 4, 2) := by decide +kernel
theorem dL_act_452 : decode cL_act 452 = .ok (.iconst 2, 1) := by decide +kernel
theorem dL_act_453 : decode cL_act 453 = .ok (.iaload, 1) := by decide +kernel
theorem dL_act_454 : decode cL_act 454 = .ok (.istore 8, 2) := by decide +kernel
theorem dL_act_456 : decode cL_act 456 = .ok (.aload 4, 2) := by decide +kernel
theorem dL_act_458 : decode cL_act 458 = .ok (.iconst 2, 1) := by decide +kernel
theorem dL_act_459 : decode cL_act 459 = .ok (.iload_n 3, 1) := by decide +kernel
theorem dL_act_460 : decode cL_act 460 = .ok (.iconst 3, 1) := by decide +kernel
theorem dL_act_461 : decode cL_act 461 = .ok (.invokestatic 41, 3) := by decide +kernel
theorem dL_act_464 : decode cL_act 464 = .ok (.iastore, 1) := by decide +kernel
theorem dL_act_465 : decode cL_act 465 = .ok (.aload_n 0, 1) := by decide +kernel
theorem dL_act_466 : decode cL_act 466 = .ok (.aload 4, 2) := by decide +kernel
theorem dL_act_468 : decode cL_act 468 = .ok (.iconst 2, 1) := by decide +kernel
theorem dL_act_469 : decode cL_act 469 = .ok (.iaload, 1) := by decide +kernel
theorem dL_act_470 : decode cL_act 470 = .ok (.invokevirtual 84, 3) := by decide +kernel
theorem dL_act_473 : decode cL_act 473 = .ok (.iload 8, 2) := by decide +kernel
theorem dL_act_475 : decode cL_act 475 = .ok (.if_icmp .ne 7, 3) := by decide +kernel
theorem dL_act_478 : decode cL_act 478 = .ok (.iconst 1, 1) := by decide +kernel
theorem dL_act_479 : decode cL_act 479 = .ok (.goto 4, 3) := by decide +kernel
theorem dL_act_482 : decode cL_act 482 = .ok (.iconst 0, 1) := by decide +kernel
theorem dL_act_483 : decode cL_act 483 = .ok (.ireturn, 1) := by decide +kernel
theorem dL_act_484 : decode cL_act 484 = .ok (.iload_n 1, 1) := by decide +kernel
theorem dL_act_485 : decode cL_act 485 = .ok (.bipush 8, 2) := by decide +kernel
theorem dL_act_487 : decode cL_act 487 = .ok (.if_icmp .ne 73, 3) := by decide +kernel
theorem dL_act_490 : decode cL_act 490 = .ok (.iconst 0, 1) := by decide +kernel
theorem dL_act_491 : decode cL_act 491 = .ok (.istore 8, 2) := by decide +kernel
theorem dL_act_493 : decode cL_act 493 = .ok (.iconst 0, 1) := by decide +kernel
theorem dL_act_494 : decode cL_act 494 = .ok (.istore 9, 2) := by decide +kernel
theorem dL_act_496 : decode cL_act 496 = .ok (.iload 9, 2) := by decide +kernel
theorem dL_act_498 : decode cL_act 498 = .ok (.iload 6, 2) := by decide +kernel
theorem dL_act_500 : decode cL_act 500 = .ok (.if_icmp .ge 45, 3) := by decide +kernel
theorem dL_act_503 : decode cL_act 503 = .ok (.aload 4, 2) := by decide +kernel
theorem dL_act_505 : decode cL_act 505 = .ok (.iconst 4, 1) := by decide +kernel
theorem dL_act_506 : decode cL_act 506 = .ok (.iload 9, 2) := by decide +kernel
theorem dL_act_508 : decode cL_act 508 = .ok (.iadd, 1) := by decide +kernel
theorem dL_act_509 : decode cL_act 509 = .ok (.iaload, 1) := by decide +kernel
theorem dL_act_510 : decode cL_act 510 = .ok (.ifCond .lt 29, 3) := by decide +kernel
theorem dL_act_513 : decode cL_act 513 = .ok (.aload 4, 2) := by decide +kernel
theorem dL_act_515 : decode cL_act 515 = .ok (.bipush 16, 2) := by decide +kernel
theorem dL_act_517 : decode cL_act 517 = .ok (.iload 9, 2) := by decide +kernel
theorem dL_act_519 : decode cL_act 519 = .ok (.iadd, 1) := by decide +kernel
theorem dL_act_520 : decode cL_act 520 = .ok (.iaload, 1) := by decide +kernel
theorem dL_act_521 : decode cL_act 521 = .ok (.iconst 1, 1) := by decide +kernel
theorem dL_act_522 : decode cL_act 522 = .ok (.if_icmp .ne 6, 3) := by decide +kernel
theorem dL_act_525 : decode cL_act 525 = .ok (.goto 14, 3) := by decide +kernel
theorem dL_act_528 : decode cL_act 528 = .ok (.aload 4, 2) := by decide +kernel
theorem dL_act_530 : decode cL_act 530 = .ok (.iconst 4, 1) := by decide +kernel
theorem dL_act_531 : decode cL_act 531 = .ok (.iload 9, 2) := by decide +kernel
theorem dL_act_533 : decode cL_act 533 = .ok (.iadd, 1) := by decide +kernel
theorem dL_act_534 : decode cL_act 534 = .ok (.iconst (-1), 1) := by decide +kernel
theorem dL_act_535 : decode cL_act 535 = .ok (.iastore, 1) := by decide +kernel
theorem dL_act_536 : decode cL_act 536 = .ok (.iinc 8 1, 3) := by decide +kernel
theorem dL_act_539 : decode cL_act 539 = .ok (.iinc 9 1, 3) := by decide +kernel
theorem dL_act_542 : decode cL_act 542 = .ok (.goto (-46), 3) := by decide +kernel
theorem dL_act_545 : decode cL_act 545 = .ok (.aload_n 0, 1) := by decide +kernel
theorem dL_act_546 : decode cL_act 546 = .ok (.invokevirtual 87, 3) := by decide +kernel
theorem dL_act_549 : decode cL_act 549 = .ok (.iload 8, 2) := by decide +kernel
theorem dL_act_551 : decode cL_act 551 = .ok (.if_icmp .ne 7, 3) := by decide +kernel
theorem dL_act_554 : decode cL_act 554 = .ok (.iconst 1, 1) := by decide +kernel
theorem dL_act_555 : decode cL_act 555 = .ok (.goto 4, 3) := by decide +kernel
theorem dL_act_558 : decode cL_act 558 = .ok (.iconst 0, 1) := by decide +kernel
theorem dL_act_559 : decode cL_act 559 = .ok (.ireturn, 1) := by decide +kernel
theorem dL_act_560 : decode cL_act 560 = .ok (.iload_n 1, 1) := by decide +kernel
theorem dL_act_561 : decode cL_act 561 = .ok (.bipush 9, 2) := by decide +kernel
theorem dL_act_563 : decode cL_act 563 = .ok (.if_icmp .ne 172, 3) := by decide +kernel
theorem dL_act_566 : decode cL_act 566 = .ok (.bipush 28, 2) := by decide +kernel
theorem dL_act_568 : decode cL_act 568 = .ok (.newarray .int, 2) := by decide +kernel
theorem dL_act_570 : decode cL_act 570 = .ok (.astore 8, 2) := by decide +kernel
theorem dL_act_572 : decode cL_act 572 = .ok (.iconst 0, 1) := by decide +kernel
theorem dL_act_573 : decode cL_act 573 = .ok (.istore 9, 2) := by decide +kernel
theorem dL_act_575 : decode cL_act 575 = .ok (.iconst 0, 1) := by decide +kernel
theorem dL_act_576 : decode cL_act 576 = .ok (.istore 10, 2) := by decide +kernel
theorem dL_act_578 : decode cL_act 578 = .ok (.iload 10, 2) := by decide +kernel
theorem dL_act_580 : decode cL_act 580 = .ok (.bipush 28, 2) := by decide +kernel
end
section
theorem dL_act_582 : decode cL_act 582 = .ok (.if_icmp .ge 19, 3) := by decide +kernel
theorem dL_act_585 : decode cL_act 585 = .ok (.aload 8, 2) := by decide +kernel
theorem dL_act_587 : decode cL_act 587 = .ok (.iload 10, 2) := by decide +kernel
theorem dL_act_589 : decode cL_act 589 = .ok (.aload 4, 2) := by decide +kernel
theorem dL_act_591 : decode cL_act 591 = .ok (.iload 10, 2) := by decide +kernel
theorem dL_act_593 : decode cL_act 593 = .ok (.iaload, 1) := by decide +kernel
theorem dL_act_594 : decode cL_act 594 = .ok (.iastore, 1) := by decide +kernel
theorem dL_act_595 : decode cL_act 595 = .ok (.iinc 10 1, 3) := by decide +kernel
theorem dL_act_598 : decode cL_act 598 = .ok (.goto (-20), 3) := by decide +kernel
theorem dL_act_601 : decode cL_act 601 = .ok (.iconst 0, 1) := by decide +kernel
theorem dL_act_602 : decode cL_act 602 = .ok (.istore 10, 2) := by decide +kernel
theorem dL_act_604 : decode cL_act 604 = .ok (.iload 10, 2) := by decide +kernel
theorem dL_act_606 : decode cL_act 606 = .ok (.iload 6, 2) := by decide +kernel
theorem dL_act_608 : decode cL_act 608 = .ok (.if_icmp .ge 112, 3) := by decide +kernel
theorem dL_act_611 : decode cL_act 611 = .ok (.iload 10, 2) := by decide +kernel
theorem dL_act_613 : decode cL_act 613 = .ok (.aload 4, 2) := by decide +kernel
theorem dL_act_615 : decode cL_act 615 = .ok (.iconst 1, 1) := by decide +kernel
theorem dL_act_616 : decode cL_act 616 = .ok (.iaload, 1) := by decide +kernel
theorem dL_act_617 : decode cL_act 617 = .ok (.idiv, 1) := by decide +kernel
theorem dL_act_618 : decode cL_act 618 = .ok (.aload 4, 2) := by decide +kernel
theorem dL_act_620 : decode cL_act 620 = .ok (.iconst 1, 1) := by decide +kernel
theorem dL_act_621 : decode cL_act 621 = .ok (.iaload, 1) := by decide +kernel
theorem dL_act_622 : decode cL_act 622 = .ok (.imul, 1) := by decide +kernel
theorem dL_act_623 : decode cL_act 623 = .ok (.aload 4, 2) := by decide +kernel
theorem dL_act_625 : decode cL_act 625 = .ok (.iconst 1, 1) := by decide +kernel
theorem dL_act_626 : decode cL_act 626 = .ok (.iaload, 1) := by decide +kernel
theorem dL_act_627 : decode cL_act 627 = .ok (.iadd, 1) := by decide +kernel
theorem dL_act_628 : decode cL_act 628 = .ok (.iconst 1, 1) := by decide +kernel
theorem dL_act_629 : decode cL_act 629 = .ok (.isub, 1) := by decide +kernel
theorem dL_act_630 : decode cL_act 630 = .ok (.iload 10, 2) := by decide +kernel
theorem dL_act_632 : decode cL_act 632 = .ok (.aload 4, 2) := by decide +kernel
theorem dL_act_634 : decode cL_act 634 = .ok (.iconst 1, 1) := by decide +kernel
theorem dL_act_635 : decode cL_act 635 = .ok (.iaload, 1) := by decide +kernel
theorem dL_act_636 : decode cL_act 636 = .ok (.irem, 1) := by decide +kernel
theorem dL_act_637 : decode cL_act 637 = .ok (.isub, 1) := by decide +kernel
theorem dL_act_638 : decode cL_act 638 = .ok (.istore 11, 2) := by decide +kernel
theorem dL_act_640 : decode cL_act 640 = .ok (.aload 8, 2) := by decide +kernel
theorem dL_act_642 : decode cL_act 642 = .ok (.iconst 4, 1) := by decide +kernel
theorem dL_act_643 : decode cL_act 643 = .ok (.iload 11, 2) := by decide +kernel
theorem dL_act_645 : decode cL_act 645 = .ok (.iadd, 1) := by decide +kernel
theorem dL_act_646 : decode cL_act 646 = .ok (.iaload, 1) := by decide +kernel
theorem dL_act_647 : decode cL_act 647 = .ok (.istore 12, 2) := by decide +kernel
theorem dL_act_649 : decode cL_act 649 = .ok (.aload 4, 2) := by decide +kernel
theorem dL_act_651 : decode cL_act 651 = .ok (.iconst 4, 1) := by decide +kernel
theorem dL_act_652 : decode cL_act 652 = .ok (.iload 10, 2) := by decide +kernel
theorem dL_act_654 : decode cL_act 654 = .ok (.iadd, 1) := by decide +kernel
theorem dL_act_655 : decode cL_act 655 = .ok (.iload 12, 2) := by decide +kernel
theorem dL_act_657 : decode cL_act 657 = .ok (.ifCond .ge 7, 3) := by decide +kernel
theorem dL_act_660 : decode cL_act 660 = .ok (.iconst (-1), 1) := by decide +kernel
theorem dL_act_661 : decode cL_act 661 = .ok (.goto 21, 3) := by decide +kernel
theorem dL_act_664 : decode cL_act 664 = .ok (.iload 12, 2) := by decide +kernel
theorem dL_act_666 : decode cL_act 666 = .ok (.iconst 4, 1) := by decide +kernel
theorem dL_act_667 : decode cL_act 667 = .ok (.ixor, 1) := by decide +kernel
theorem dL_act_668 : decode cL_act 668 = .ok (.iload 12, 2) := by decide +kernel
theorem dL_act_670 : decode cL_act 670 = .ok (.iconst 4, 1) := by decide +kernel
theorem dL_act_671 : decode cL_act 671 = .ok (.irem, 1) := by decide +kernel
theorem dL_act_672 : decode cL_act 672 = .ok (.isub, 1) := by decide +kernel
theorem dL_act_673 : decode cL_act 673 = .ok (.iconst 4, 1) := by decide +kernel
theorem dL_act_674 : decode cL_act 674 = .ok (.iload 12, 2) := by decide +kernel
theorem dL_act_676 : decode cL_act 676 = .ok (.iconst 4, 1) := by decide +kernel
theorem dL_act_677 : decode cL_act 677 = .ok (.irem, 1) := by decide +kernel
theorem dL_act_678 : decode cL_act 678 = .ok (.isub, 1) := by decide +kernel
theorem dL_act_679 : decode cL_act 679 = .ok (.iconst 4, 1) := by decide +kernel
theorem dL_act_680 : decode cL_act 680 = .ok (.irem, 1) := by decide +kernel
theorem dL_act_681 : decode cL_act 681 = .ok (.iadd, 1) := by decide +kernel
theorem dL_act_682 : decode cL_act 682 = .ok (.iastore, 1) := by decide +kernel
theorem dL_act_683 : decode cL_act 683 = .ok (.aload 4, 2) := by decide +kernel
theorem dL_act_685 : decode cL_act 685 = .ok (.bipush 16, 2) := by decide +kernel
theorem dL_act_687 : decode cL_act 687 = .ok (.iload 10, 2) := by decide +kernel
theorem dL_act_689 : decode cL_act 689 = .ok (.iadd, 1) := by decide +kernel
theorem dL_act_690 : decode cL_act 690 = .ok (.aload 8, 2) := by decide +kernel
theorem dL_act_692 : decode cL_act 692 = .ok (.bipush 16, 2) := by decide +kernel
theorem dL_act_694 : decode cL_act 694 = .ok (.iload 11, 2) := by decide +kernel
theorem dL_act_696 : decode cL_act 696 = .ok (.iadd, 1) := by decide +kernel
theorem dL_act_697 : decode cL_act 697 = .ok (.iaload, 1) := by decide +kernel
theorem dL_act_698 : decode cL_act 698 = .ok (.iastore, 1) := by decide +kernel
theorem dL_act_699 : decode cL_act 699 = .ok (.iload 9, 2) := by decide +kernel
theorem dL_act_701 : decode cL_act 701 = .ok (.iload 12, 2) := by decide +kernel
theorem dL_act_703 : decode cL_act 703 = .ok (.ifCond .ge 7, 3) := by decide +kernel
theorem dL_act_706 : decode cL_act 706 = .ok (.iconst 0, 1) := by decide +kernel
theorem dL_act_707 : decode cL_act 707 = .ok (.goto 4, 3) := by decide +kernel
theorem dL_act_710 : decode cL_act 710 = .ok (.iconst 1, 1) := by decide +kernel
theorem dL_act_711 : decode cL_act 711 = .ok (.iadd, 1) := by decide +kernel
theorem dL_act_712 : decode cL_act 712 = .ok (.istore 9, 2) := by decide +kernel
theorem dL_act_714 : decode cL_act 714 = .ok (.iinc 10 1, 3) := by decide +kernel
theorem dL_act_717 : decode cL_act 717 = .ok (.goto (-113), 3) := by decide +kernel
theorem dL_act_720 : decode cL_act 720 = .ok (.aload_n 0, 1) := by decide +kernel
theorem dL_act_721 : decode cL_act 721 = .ok (.invokevirtual 90, 3) := by decide +kernel
theorem dL_act_724 : decode cL_act 724 = .ok (.iload 9, 2) := by decide +kernel
theorem dL_act_726 : decode cL_act 726 = .ok (.if_icmp .ne 7, 3) := by decide +kernel
end
section
theorem dL_act_729 : decode cL_act 729 = .ok (.iconst 1, 1) := by decide +kernel
theorem dL_act_730 : decode cL_act 730 = .ok (.goto 4, 3) := by decide +kernel
theorem dL_act_733 : decode cL_act 733 = .ok (.iconst 0, 1) := by decide +kernel
theorem dL_act_734 : decode cL_act 734 = .ok (.ireturn, 1) := by decide +kernel
theorem dL_act_735 : decode cL_act 735 = .ok (.iload_n 1, 1) := by decide +kernel
theorem dL_act_736 : decode cL_act 736 = .ok (.bipush 10, 2) := by decide +kernel
theorem dL_act_738 : decode cL_act 738 = .ok (.if_icmp .ne 171, 3) := by decide +kernel
theorem dL_act_741 : decode cL_act 741 = .ok (.aload 4, 2) := by decide +kernel
theorem dL_act_743 : decode cL_act 743 = .ok (.iconst 3, 1) := by decide +kernel
theorem dL_act_744 : decode cL_act 744 = .ok (.iaload, 1) := by decide +kernel
theorem dL_act_745 : decode cL_act 745 = .ok (.bipush 6, 2) := by decide +kernel
theorem dL_act_747 : decode cL_act 747 = .ok (.if_icmp .ne 5, 3) := by decide +kernel
theorem dL_act_750 : decode cL_act 750 = .ok (.iconst 1, 1) := by decide +kernel
theorem dL_act_751 : decode cL_act 751 = .ok (.ireturn, 1) := by decide +kernel
theorem dL_act_752 : decode cL_act 752 = .ok (.iconst 0, 1) := by decide +kernel
theorem dL_act_753 : decode cL_act 753 = .ok (.istore 8, 2) := by decide +kernel
theorem dL_act_755 : decode cL_act 755 = .ok (.iload 8, 2) := by decide +kernel
theorem dL_act_757 : decode cL_act 757 = .ok (.bipush 8, 2) := by decide +kernel
theorem dL_act_759 : decode cL_act 759 = .ok (.if_icmp .ge 32, 3) := by decide +kernel
theorem dL_act_762 : decode cL_act 762 = .ok (.aload 5, 2) := by decide +kernel
theorem dL_act_764 : decode cL_act 764 = .ok (.bipush 8, 2) := by decide +kernel
theorem dL_act_766 : decode cL_act 766 = .ok (.aload 4, 2) := by decide +kernel
theorem dL_act_768 : decode cL_act 768 = .ok (.iconst 3, 1) := by decide +kernel
theorem dL_act_769 : decode cL_act 769 = .ok (.iaload, 1) := by decide +kernel
theorem dL_act_770 : decode cL_act 770 = .ok (.imul, 1) := by decide +kernel
theorem dL_act_771 : decode cL_act 771 = .ok (.iload 8, 2) := by decide +kernel
theorem dL_act_773 : decode cL_act 773 = .ok (.iadd, 1) := by decide +kernel
theorem dL_act_774 : decode cL_act 774 = .ok (.iload_n 2, 1) := by decide +kernel
theorem dL_act_775 : decode cL_act 775 = .ok (.iload 8, 2) := by decide +kernel
theorem dL_act_777 : decode cL_act 777 = .ok (.ishr, 1) := by decide +kernel
theorem dL_act_778 : decode cL_act 778 = .ok (.iload_n 3, 1) := by decide +kernel
theorem dL_act_779 : decode cL_act 779 = .ok (.iadd, 1) := by decide +kernel
theorem dL_act_780 : decode cL_act 780 = .ok (.iconst 4, 1) := by decide +kernel
theorem dL_act_781 : decode cL_act 781 = .ok (.invokestatic 41, 3) := by decide +kernel
theorem dL_act_784 : decode cL_act 784 = .ok (.iastore, 1) := by decide +kernel
theorem dL_act_785 : decode cL_act 785 = .ok (.iinc 8 1, 3) := by decide +kernel
theorem dL_act_788 : decode cL_act 788 = .ok (.goto (-33), 3) := by decide +kernel
theorem dL_act_791 : decode cL_act 791 = .ok (.bipush 8, 2) := by decide +kernel
theorem dL_act_793 : decode cL_act 793 = .ok (.aload 4, 2) := by decide +kernel
theorem dL_act_795 : decode cL_act 795 = .ok (.iconst 3, 1) := by decide +kernel
theorem dL_act_796 : decode cL_act 796 = .ok (.iaload, 1) := by decide +kernel
theorem dL_act_797 : decode cL_act 797 = .ok (.imul, 1) := by decide +kernel
theorem dL_act_798 : decode cL_act 798 = .ok (.istore 8, 2) := by decide +kernel
theorem dL_act_800 : decode cL_act 800 = .ok (.aload 4, 2) := by decide +kernel
theorem dL_act_802 : decode cL_act 802 = .ok (.iconst 3, 1) := by decide +kernel
theorem dL_act_803 : decode cL_act 803 = .ok (.dup2, 1) := by decide +kernel
theorem dL_act_804 : decode cL_act 804 = .ok (.iaload, 1) := by decide +kernel
theorem dL_act_805 : decode cL_act 805 = .ok (.iconst 1, 1) := by decide +kernel
theorem dL_act_806 : decode cL_act 806 = .ok (.iadd, 1) := by decide +kernel
theorem dL_act_807 : decode cL_act 807 = .ok (.iastore, 1) := by decide +kernel
theorem dL_act_808 : decode cL_act 808 = .ok (.aload_n 0, 1) := by decide +kernel
theorem dL_act_809 : decode cL_act 809 = .ok (.sipush 1000, 3) := by decide +kernel
theorem dL_act_812 : decode cL_act 812 = .ok (.aload 5, 2) := by decide +kernel
theorem dL_act_814 : decode cL_act 814 = .ok (.iload 8, 2) := by decide +kernel
theorem dL_act_816 : decode cL_act 816 = .ok (.iaload, 1) := by decide +kernel
theorem dL_act_817 : decode cL_act 817 = .ok (.imul, 1) := by decide +kernel
theorem dL_act_818 : decode cL_act 818 = .ok (.bipush 100, 2) := by decide +kernel
theorem dL_act_820 : decode cL_act 820 = .ok (.aload 5, 2) := by decide +kernel
theorem dL_act_822 : decode cL_act 822 = .ok (.iload 8, 2) := by decide +kernel
theorem dL_act_824 : decode cL_act 824 = .ok (.iconst 1, 1) := by decide +kernel
theorem dL_act_825 : decode cL_act 825 = .ok (.iadd, 1) := by decide +kernel
theorem dL_act_826 : decode cL_act 826 = .ok (.iaload, 1) := by decide +kernel
theorem dL_act_827 : decode cL_act 827 = .ok (.imul, 1) := by decide +kernel
theorem dL_act_828 : decode cL_act 828 = .ok (.iadd, 1) := by decide +kernel
theorem dL_act_829 : decode cL_act 829 = .ok (.bipush 10, 2) := by decide +kernel
theorem dL_act_831 : decode cL_act 831 = .ok (.aload 5, 2) := by decide +kernel
theorem dL_act_833 : decode cL_act 833 = .ok (.iload 8, 2) := by decide +kernel
theorem dL_act_835 : decode cL_act 835 = .ok (.iconst 2, 1) := by decide +kernel
theorem dL_act_836 : decode cL_act 836 = .ok (.iadd, 1) := by decide +kernel
theorem dL_act_837 : decode cL_act 837 = .ok (.iaload, 1) := by decide +kernel
theorem dL_act_838 : decode cL_act 838 = .ok (.imul, 1) := by decide +kernel
theorem dL_act_839 : decode cL_act 839 = .ok (.iadd, 1) := by decide +kernel
theorem dL_act_840 : decode cL_act 840 = .ok (.aload 5, 2) := by decide +kernel
theorem dL_act_842 : decode cL_act 842 = .ok (.iload 8, 2) := by decide +kernel
theorem dL_act_844 : decode cL_act 844 = .ok (.iconst 3, 1) := by decide +kernel
theorem dL_act_845 : decode cL_act 845 = .ok (.iadd, 1) := by decide +kernel
theorem dL_act_846 : decode cL_act 846 = .ok (.iaload, 1) := by decide +kernel
theorem dL_act_847 : decode cL_act 847 = .ok (.iadd, 1) := by decide +kernel
theorem dL_act_848 : decode cL_act 848 = .ok (.sipush 1000, 3) := by decide +kernel
theorem dL_act_851 : decode cL_act 851 = .ok (.aload 5, 2) := by decide +kernel
theorem dL_act_853 : decode cL_act 853 = .ok (.iload 8, 2) := by decide +kernel
theorem dL_act_855 : decode cL_act 855 = .ok (.iconst 4, 1) := by decide +kernel
theorem dL_act_856 : decode cL_act 856 = .ok (.iadd, 1) := by decide +kernel
theorem dL_act_857 : decode cL_act 857 = .ok (.iaload, 1) := by decide +kernel
theorem dL_act_858 : decode cL_act 858 = .ok (.imul, 1) := by decide +kernel
theorem dL_act_859 : decode cL_act 859 = .ok (.bipush 100, 2) := by decide +kernel
theorem dL_act_861 : decode cL_act 861 = .ok (.aload 5, 2) := by decide +kernel
theorem dL_act_863 : decode cL_act 863 = .ok (.iload 8, 2) := by decide +kernel
theorem dL_act_865 : decode cL_act 865 = .ok (.iconst 5, 1) := by decide +kernel
theorem dL_act_866 : decode cL_act 866 = .ok (.iadd, 1) := by decide +kernel
end
section
theorem dL_act_867 : decode cL_act 867 = .ok (.iaload, 1) := by decide +kernel
theorem dL_act_868 : decode cL_act 868 = .ok (.imul, 1) := by decide +kernel
theorem dL_act_869 : decode cL_act 869 = .ok (.iadd, 1) := by decide +kernel
theorem dL_act_870 : decode cL_act 870 = .ok (.bipush 10, 2) := by decide +kernel
theorem dL_act_872 : decode cL_act 872 = .ok (.aload 5, 2) := by decide +kernel
theorem dL_act_874 : decode cL_act 874 = .ok (.iload 8, 2) := by decide +kernel
theorem dL_act_876 : decode cL_act 876 = .ok (.bipush 6, 2) := by decide +kernel
theorem dL_act_878 : decode cL_act 878 = .ok (.iadd, 1) := by decide +kernel
theorem dL_act_879 : decode cL_act 879 = .ok (.iaload, 1) := by decide +kernel
theorem dL_act_880 : decode cL_act 880 = .ok (.imul, 1) := by decide +kernel
theorem dL_act_881 : decode cL_act 881 = .ok (.iadd, 1) := by decide +kernel
theorem dL_act_882 : decode cL_act 882 = .ok (.aload 5, 2) := by decide +kernel
theorem dL_act_884 : decode cL_act 884 = .ok (.iload 8, 2) := by decide +kernel
theorem dL_act_886 : decode cL_act 886 = .ok (.bipush 7, 2) := by decide +kernel
theorem dL_act_888 : decode cL_act 888 = .ok (.iadd, 1) := by decide +kernel
theorem dL_act_889 : decode cL_act 889 = .ok (.iaload, 1) := by decide +kernel
theorem dL_act_890 : decode cL_act 890 = .ok (.iadd, 1) := by decide +kernel
theorem dL_act_891 : decode cL_act 891 = .ok (.invokevirtual 93, 3) := by decide +kernel
theorem dL_act_894 : decode cL_act 894 = .ok (.aload 4, 2) := by decide +kernel
theorem dL_act_896 : decode cL_act 896 = .ok (.iconst 3, 1) := by decide +kernel
theorem dL_act_897 : decode cL_act 897 = .ok (.iaload, 1) := by decide +kernel
theorem dL_act_898 : decode cL_act 898 = .ok (.iconst 1, 1) := by decide +kernel
theorem dL_act_899 : decode cL_act 899 = .ok (.isub, 1) := by decide +kernel
theorem dL_act_900 : decode cL_act 900 = .ok (.if_icmp .ne 7, 3) := by decide +kernel
theorem dL_act_903 : decode cL_act 903 = .ok (.iconst 1, 1) := by decide +kernel
theorem dL_act_904 : decode cL_act 904 = .ok (.goto 4, 3) := by decide +kernel
theorem dL_act_907 : decode cL_act 907 = .ok (.iconst 0, 1) := by decide +kernel
theorem dL_act_908 : decode cL_act 908 = .ok (.ireturn, 1) := by decide +kernel
theorem dL_act_909 : decode cL_act 909 = .ok (.iload_n 1, 1) := by decide +kernel
theorem dL_act_910 : decode cL_act 910 = .ok (.bipush 11, 2) := by decide +kernel
theorem dL_act_912 : decode cL_act 912 = .ok (.if_icmp .ne 51, 3) := by decide +kernel
theorem dL_act_915 : decode cL_act 915 = .ok (.aload 4, 2) := by decide +kernel
theorem dL_act_917 : decode cL_act 917 = .ok (.iconst 3, 1) := by decide +kernel
theorem dL_act_918 : decode cL_act 918 = .ok (.iaload, 1) := by decide +kernel
theorem dL_act_919 : decode cL_act 919 = .ok (.ifCond .eq 17, 3) := by decide +kernel
theorem dL_act_922 : decode cL_act 922 = .ok (.aload 4, 2) := by decide +kernel
theorem dL_act_924 : decode cL_act 924 = .ok (.iconst 3, 1) := by decide +kernel
theorem dL_act_925 : decode cL_act 925 = .ok (.iaload, 1) := by decide +kernel
theorem dL_act_926 : decode cL_act 926 = .ok (.iconst 1, 1) := by decide +kernel
theorem dL_act_927 : decode cL_act 927 = .ok (.isub, 1) := by decide +kernel
theorem dL_act_928 : decode cL_act 928 = .ok (.aload 4, 2) := by decide +kernel
theorem dL_act_930 : decode cL_act 930 = .ok (.invokestatic 18, 3) := by decide +kernel
theorem dL_act_933 : decode cL_act 933 = .ok (.ifCond .lt 5, 3) := by decide +kernel
theorem dL_act_936 : decode cL_act 936 = .ok (.iconst 1, 1) := by decide +kernel
theorem dL_act_937 : decode cL_act 937 = .ok (.ireturn, 1) := by decide +kernel
theorem dL_act_938 : decode cL_act 938 = .ok (.aload 4, 2) := by decide +kernel
theorem dL_act_940 : decode cL_act 940 = .ok (.iconst 3, 1) := by decide +kernel
theorem dL_act_941 : decode cL_act 941 = .ok (.dup2, 1) := by decide +kernel
theorem dL_act_942 : decode cL_act 942 = .ok (.iaload, 1) := by decide +kernel
theorem dL_act_943 : decode cL_act 943 = .ok (.iconst 1, 1) := by decide +kernel
theorem dL_act_944 : decode cL_act 944 = .ok (.isub, 1) := by decide +kernel
theorem dL_act_945 : decode cL_act 945 = .ok (.iastore, 1) := by decide +kernel
theorem dL_act_946 : decode cL_act 946 = .ok (.aload_n 0, 1) := by decide +kernel
theorem dL_act_947 : decode cL_act 947 = .ok (.invokevirtual 96, 3) := by decide +kernel
theorem dL_act_950 : decode cL_act 950 = .ok (.aload 4, 2) := by decide +kernel
theorem dL_act_952 : decode cL_act 952 = .ok (.iconst 3, 1) := by decide +kernel
theorem dL_act_953 : decode cL_act 953 = .ok (.iaload, 1) := by decide +kernel
theorem dL_act_954 : decode cL_act 954 = .ok (.if_icmp .ne 7, 3) := by decide +kernel
theorem dL_act_957 : decode cL_act 957 = .ok (.iconst 1, 1) := by decide +kernel
theorem dL_act_958 : decode cL_act 958 = .ok (.goto 4, 3) := by decide +kernel
theorem dL_act_961 : decode cL_act 961 = .ok (.iconst 0, 1) := by decide +kernel
theorem dL_act_962 : decode cL_act 962 = .ok (.ireturn, 1) := by decide +kernel
theorem dL_act_963 : decode cL_act 963 = .ok (.bipush 15, 2) := by decide +kernel
theorem dL_act_965 : decode cL_act 965 = .ok (.newarray .int, 2) := by decide +kernel
theorem dL_act_967 : decode cL_act 967 = .ok (.astore 8, 2) := by decide +kernel
theorem dL_act_969 : decode cL_act 969 = .ok (.iconst 1, 1) := by decide +kernel
theorem dL_act_970 : decode cL_act 970 = .ok (.aload 4, 2) := by decide +kernel
theorem dL_act_972 : decode cL_act 972 = .ok (.aload 5, 2) := by decide +kernel
theorem dL_act_974 : decode cL_act 974 = .ok (.aload 8, 2) := by decide +kernel
theorem dL_act_976 : decode cL_act 976 = .ok (.invokestatic 46, 3) := by decide +kernel
theorem dL_act_979 : decode cL_act 979 = .ok (.aload 8, 2) := by decide +kernel
theorem dL_act_981 : decode cL_act 981 = .ok (.iconst 0, 1) := by decide +kernel
theorem dL_act_982 : decode cL_act 982 = .ok (.iaload, 1) := by decide +kernel
theorem dL_act_983 : decode cL_act 983 = .ok (.ifCond .ne 5, 3) := by decide +kernel
theorem dL_act_986 : decode cL_act 986 = .ok (.iconst 1, 1) := by decide +kernel
theorem dL_act_987 : decode cL_act 987 = .ok (.ireturn, 1) := by decide +kernel
theorem dL_act_988 : decode cL_act 988 = .ok (.iconst 0, 1) := by decide +kernel
theorem dL_act_989 : decode cL_act 989 = .ok (.istore 9, 2) := by decide +kernel
theorem dL_act_991 : decode cL_act 991 = .ok (.iconst 0, 1) := by decide +kernel
theorem dL_act_992 : decode cL_act 992 = .ok (.istore 10, 2) := by decide +kernel
theorem dL_act_994 : decode cL_act 994 = .ok (.iload 10, 2) := by decide +kernel
theorem dL_act_996 : decode cL_act 996 = .ok (.iload 6, 2) := by decide +kernel
theorem dL_act_998 : decode cL_act 998 = .ok (.if_icmp .ge 39, 3) := by decide +kernel
theorem dL_act_1001 : decode cL_act 1001 = .ok (.aload 4, 2) := by decide +kernel
theorem dL_act_1003 : decode cL_act 1003 = .ok (.iconst 4, 1) := by decide +kernel
theorem dL_act_1004 : decode cL_act 1004 = .ok (.iload 10, 2) := by decide +kernel
theorem dL_act_1006 : decode cL_act 1006 = .ok (.iadd, 1) := by decide +kernel
theorem dL_act_1007 : decode cL_act 1007 = .ok (.iaload, 1) := by decide +kernel
theorem dL_act_1008 : decode cL_act 1008 = .ok (.ifCond .lt 6, 3) := by decide +kernel
theorem dL_act_1011 : decode cL_act 1011 = .ok (.goto 20, 3) := by decide +kernel
end
section
theorem dL_act_1014 : decode cL_act 1014 = .ok (.aload 4, 2) := by decide +kernel
theorem dL_act_1016 : decode cL_act 1016 = .ok (.iconst 4, 1) := by decide +kernel
theorem dL_act_1017 : decode cL_act 1017 = .ok (.iload 10, 2) := by decide +kernel
theorem dL_act_1019 : decode cL_act 1019 = .ok (.iadd, 1) := by decide +kernel
theorem dL_act_1020 : decode cL_act 1020 = .ok (.aload 8, 2) := by decide +kernel
theorem dL_act_1022 : decode cL_act 1022 = .ok (.iconst 3, 1) := by decide +kernel
theorem dL_act_1023 : decode cL_act 1023 = .ok (.iload 10, 2) := by decide +kernel
theorem dL_act_1025 : decode cL_act 1025 = .ok (.iadd, 1) := by decide +kernel
theorem dL_act_1026 : decode cL_act 1026 = .ok (.iaload, 1) := by decide +kernel
theorem dL_act_1027 : decode cL_act 1027 = .ok (.iastore, 1) := by decide +kernel
theorem dL_act_1028 : decode cL_act 1028 = .ok (.iinc 9 1, 3) := by decide +kernel
theorem dL_act_1031 : decode cL_act 1031 = .ok (.iinc 10 1, 3) := by decide +kernel
theorem dL_act_1034 : decode cL_act 1034 = .ok (.goto (-40), 3) := by decide +kernel
theorem dL_act_1037 : decode cL_act 1037 = .ok (.aload_n 0, 1) := by decide +kernel
theorem dL_act_1038 : decode cL_act 1038 = .ok (.invokevirtual 99, 3) := by decide +kernel
theorem dL_act_1041 : decode cL_act 1041 = .ok (.iload 9, 2) := by decide +kernel
theorem dL_act_1043 : decode cL_act 1043 = .ok (.if_icmp .ne 7, 3) := by decide +kernel
theorem dL_act_1046 : decode cL_act 1046 = .ok (.iconst 1, 1) := by decide +kernel
theorem dL_act_1047 : decode cL_act 1047 = .ok (.goto 4, 3) := by decide +kernel
theorem dL_act_1050 : decode cL_act 1050 = .ok (.iconst 0, 1) := by decide +kernel
theorem dL_act_1051 : decode cL_act 1051 = .ok (.ireturn, 1) := by decide +kernel
theorem dL_law_0 : decode cL_law 0 = .ok (.new 30, 3) := by decide +kernel
theorem dL_law_3 : decode cL_law 3 = .ok (.dup, 1) := by decide +kernel
theorem dL_law_4 : decode cL_law 4 = .ok (.invokespecial 102, 3) := by decide +kernel
theorem dL_law_7 : decode cL_law 7 = .ok (.astore_n 1, 1) := by decide +kernel
theorem dL_law_8 : decode cL_law 8 = .ok (.bipush 28, 2) := by decide +kernel
theorem dL_law_10 : decode cL_law 10 = .ok (.newarray .int, 2) := by decide +kernel
theorem dL_law_12 : decode cL_law 12 = .ok (.astore_n 2, 1) := by decide +kernel
theorem dL_law_13 : decode cL_law 13 = .ok (.bipush 48, 2) := by decide +kernel
theorem dL_law_15 : decode cL_law 15 = .ok (.newarray .int, 2) := by decide +kernel
theorem dL_law_17 : decode cL_law 17 = .ok (.astore_n 3, 1) := by decide +kernel
theorem dL_law_18 : decode cL_law 18 = .ok (.bipush 28, 2) := by decide +kernel
theorem dL_law_20 : decode cL_law 20 = .ok (.newarray .int, 2) := by decide +kernel
theorem dL_law_22 : decode cL_law 22 = .ok (.astore 4, 2) := by decide +kernel
theorem dL_law_24 : decode cL_law 24 = .ok (.bipush 48, 2) := by decide +kernel
theorem dL_law_26 : decode cL_law 26 = .ok (.newarray .int, 2) := by decide +kernel
theorem dL_law_28 : decode cL_law 28 = .ok (.astore 5, 2) := by decide +kernel
theorem dL_law_30 : decode cL_law 30 = .ok (.aload_n 2, 1) := by decide +kernel
theorem dL_law_31 : decode cL_law 31 = .ok (.iconst 0, 1) := by decide +kernel
theorem dL_law_32 : decode cL_law 32 = .ok (.iconst 2, 1) := by decide +kernel
theorem dL_law_33 : decode cL_law 33 = .ok (.iastore, 1) := by decide +kernel
theorem dL_law_34 : decode cL_law 34 = .ok (.aload_n 2, 1) := by decide +kernel
theorem dL_law_35 : decode cL_law 35 = .ok (.iconst 1, 1) := by decide +kernel
theorem dL_law_36 : decode cL_law 36 = .ok (.iconst 2, 1) := by decide +kernel
theorem dL_law_37 : decode cL_law 37 = .ok (.iastore, 1) := by decide +kernel
theorem dL_law_38 : decode cL_law 38 = .ok (.iconst 0, 1) := by decide +kernel
theorem dL_law_39 : decode cL_law 39 = .ok (.istore 6, 2) := by decide +kernel
theorem dL_law_41 : decode cL_law 41 = .ok (.iload 6, 2) := by decide +kernel
theorem dL_law_43 : decode cL_law 43 = .ok (.bipush 12, 2) := by decide +kernel
theorem dL_law_45 : decode cL_law 45 = .ok (.if_icmp .ge 16, 3) := by decide +kernel
theorem dL_law_48 : decode cL_law 48 = .ok (.aload_n 2, 1) := by decide +kernel
theorem dL_law_49 : decode cL_law 49 = .ok (.iconst 4, 1) := by decide +kernel
theorem dL_law_50 : decode cL_law 50 = .ok (.iload 6, 2) := by decide +kernel
theorem dL_law_52 : decode cL_law 52 = .ok (.iadd, 1) := by decide +kernel
theorem dL_law_53 : decode cL_law 53 = .ok (.iconst (-1), 1) := by decide +kernel
theorem dL_law_54 : decode cL_law 54 = .ok (.iastore, 1) := by decide +kernel
theorem dL_law_55 : decode cL_law 55 = .ok (.iinc 6 1, 3) := by decide +kernel
theorem dL_law_58 : decode cL_law 58 = .ok (.goto (-17), 3) := by decide +kernel
theorem dL_law_61 : decode cL_law 61 = .ok (.aload_n 1, 1) := by decide +kernel
theorem dL_law_62 : decode cL_law 62 = .ok (.iconst 0, 1) := by decide +kernel
theorem dL_law_63 : decode cL_law 63 = .ok (.aload_n 2, 1) := by decide +kernel
theorem dL_law_64 : decode cL_law 64 = .ok (.aload_n 3, 1) := by decide +kernel
theorem dL_law_65 : decode cL_law 65 = .ok (.invokestatic 103, 3) := by decide +kernel
theorem dL_law_68 : decode cL_law 68 = .ok (.ifCond .eq 12, 3) := by decide +kernel
theorem dL_law_71 : decode cL_law 71 = .ok (.aload_n 1, 1) := by decide +kernel
theorem dL_law_72 : decode cL_law 72 = .ok (.bipush 9, 2) := by decide +kernel
theorem dL_law_74 : decode cL_law 74 = .ok (.invokevirtual 61, 3) := by decide +kernel
theorem dL_law_77 : decode cL_law 77 = .ok (.ifCond .eq 5, 3) := by decide +kernel
theorem dL_law_80 : decode cL_law 80 = .ok (.iconst 0, 1) := by decide +kernel
theorem dL_law_81 : decode cL_law 81 = .ok (.ireturn, 1) := by decide +kernel
theorem dL_law_82 : decode cL_law 82 = .ok (.iconst 0, 1) := by decide +kernel
theorem dL_law_83 : decode cL_law 83 = .ok (.istore 6, 2) := by decide +kernel
theorem dL_law_85 : decode cL_law 85 = .ok (.iload 6, 2) := by decide +kernel
theorem dL_law_87 : decode cL_law 87 = .ok (.bipush 20, 2) := by decide +kernel
theorem dL_law_89 : decode cL_law 89 = .ok (.if_icmp .ge 235, 3) := by decide +kernel
theorem dL_law_92 : decode cL_law 92 = .ok (.aload_n 0, 1) := by decide +kernel
theorem dL_law_93 : decode cL_law 93 = .ok (.iconst 2, 1) := by decide +kernel
theorem dL_law_94 : decode cL_law 94 = .ok (.iload 6, 2) := by decide +kernel
theorem dL_law_96 : decode cL_law 96 = .ok (.imul, 1) := by decide +kernel
theorem dL_law_97 : decode cL_law 97 = .ok (.invokestatic 107, 3) := by decide +kernel
theorem dL_law_100 : decode cL_law 100 = .ok (.ldc 110, 2) := by decide +kernel
theorem dL_law_102 : decode cL_law 102 = .ok (.iand, 1) := by decide +kernel
theorem dL_law_103 : decode cL_law 103 = .ok (.istore 7, 2) := by decide +kernel
theorem dL_law_105 : decode cL_law 105 = .ok (.aload_n 0, 1) := by decide +kernel
theorem dL_law_106 : decode cL_law 106 = .ok (.iconst 2, 1) := by decide +kernel
theorem dL_law_107 : decode cL_law 107 = .ok (.iload 6, 2) := by decide +kernel
theorem dL_law_109 : decode cL_law 109 = .ok (.imul, 1) := by decide +kernel
theorem dL_law_110 : decode cL_law 110 = .ok (.iconst 1, 1) := by decide +kernel
theorem dL_law_111 : decode cL_law 111 = .ok (.iadd, 1) := by decide +kernel
theorem dL_law_112 : decode cL_law 112 = .ok (.invokestatic 107, 3) := by decide +kernel
end
section
theorem dL_law_115 : decode cL_law 115 = .ok (.ldc 110, 2) := by decide +kernel
theorem dL_law_117 : decode cL_law 117 = .ok (.iand, 1) := by decide +kernel
theorem dL_law_118 : decode cL_law 118 = .ok (.istore 8, 2) := by decide +kernel
theorem dL_law_120 : decode cL_law 120 = .ok (.aload_n 1, 1) := by decide +kernel
theorem dL_law_121 : decode cL_law 121 = .ok (.bipush 9, 2) := by decide +kernel
theorem dL_law_123 : decode cL_law 123 = .ok (.invokevirtual 61, 3) := by decide +kernel
theorem dL_law_126 : decode cL_law 126 = .ok (.istore 9, 2) := by decide +kernel
theorem dL_law_128 : decode cL_law 128 = .ok (.iconst 0, 1) := by decide +kernel
theorem dL_law_129 : decode cL_law 129 = .ok (.istore 10, 2) := by decide +kernel
theorem dL_law_131 : decode cL_law 131 = .ok (.iload 10, 2) := by decide +kernel
theorem dL_law_133 : decode cL_law 133 = .ok (.bipush 48, 2) := by decide +kernel
theorem dL_law_135 : decode cL_law 135 = .ok (.if_icmp .ge 34, 3) := by decide +kernel
theorem dL_law_138 : decode cL_law 138 = .ok (.aload 5, 2) := by decide +kernel
theorem dL_law_140 : decode cL_law 140 = .ok (.iload 10, 2) := by decide +kernel
theorem dL_law_142 : decode cL_law 142 = .ok (.aload_n 3, 1) := by decide +kernel
theorem dL_law_143 : decode cL_law 143 = .ok (.iload 10, 2) := by decide +kernel
theorem dL_law_145 : decode cL_law 145 = .ok (.iaload, 1) := by decide +kernel
theorem dL_law_146 : decode cL_law 146 = .ok (.iastore, 1) := by decide +kernel
theorem dL_law_147 : decode cL_law 147 = .ok (.iload 10, 2) := by decide +kernel
theorem dL_law_149 : decode cL_law 149 = .ok (.bipush 28, 2) := by decide +kernel
theorem dL_law_151 : decode cL_law 151 = .ok (.if_icmp .ge 12, 3) := by decide +kernel
theorem dL_law_154 : decode cL_law 154 = .ok (.aload 4, 2) := by decide +kernel
theorem dL_law_156 : decode cL_law 156 = .ok (.iload 10, 2) := by decide +kernel
theorem dL_law_158 : decode cL_law 158 = .ok (.aload_n 2, 1) := by decide +kernel
theorem dL_law_159 : decode cL_law 159 = .ok (.iload 10, 2) := by decide +kernel
theorem dL_law_161 : decode cL_law 161 = .ok (.iaload, 1) := by decide +kernel
theorem dL_law_162 : decode cL_law 162 = .ok (.iastore, 1) := by decide +kernel
theorem dL_law_163 : decode cL_law 163 = .ok (.iinc 10 1, 3) := by decide +kernel
theorem dL_law_166 : decode cL_law 166 = .ok (.goto (-35), 3) := by decide +kernel
theorem dL_law_169 : decode cL_law 169 = .ok (.aload_n 1, 1) := by decide +kernel
theorem dL_law_170 : decode cL_law 170 = .ok (.iload 6, 2) := by decide +kernel
theorem dL_law_172 : decode cL_law 172 = .ok (.ifCond .ne 7, 3) := by decide +kernel
theorem dL_law_175 : decode cL_law 175 = .ok (.iconst 0, 1) := by decide +kernel
theorem dL_law_176 : decode cL_law 176 = .ok (.goto 13, 3) := by decide +kernel
theorem dL_law_179 : decode cL_law 179 = .ok (.iload 7, 2) := by decide +kernel
theorem dL_law_181 : decode cL_law 181 = .ok (.bipush 13, 2) := by decide +kernel
theorem dL_law_183 : decode cL_law 183 = .ok (.ishr, 1) := by decide +kernel
theorem dL_law_184 : decode cL_law 184 = .ok (.bipush 13, 2) := by decide +kernel
theorem dL_law_186 : decode cL_law 186 = .ok (.invokestatic 41, 3) := by decide +kernel
theorem dL_law_189 : decode cL_law 189 = .ok (.iload 7, 2) := by decide +kernel
theorem dL_law_191 : decode cL_law 191 = .ok (.iload 8, 2) := by decide +kernel
theorem dL_law_193 : decode cL_law 193 = .ok (.aload_n 2, 1) := by decide +kernel
theorem dL_law_194 : decode cL_law 194 = .ok (.aload_n 3, 1) := by decide +kernel
theorem dL_law_195 : decode cL_law 195 = .ok (.invokestatic 111, 3) := by decide +kernel
theorem dL_law_198 : decode cL_law 198 = .ok (.ifCond .eq 16, 3) := by decide +kernel
theorem dL_law_201 : decode cL_law 201 = .ok (.aload_n 1, 1) := by decide +kernel
theorem dL_law_202 : decode cL_law 202 = .ok (.iload 8, 2) := by decide +kernel
theorem dL_law_204 : decode cL_law 204 = .ok (.iconst 2, 1) := by decide +kernel
theorem dL_law_205 : decode cL_law 205 = .ok (.ishr, 1) := by decide +kernel
theorem dL_law_206 : decode cL_law 206 = .ok (.aload_n 2, 1) := by decide +kernel
theorem dL_law_207 : decode cL_law 207 = .ok (.aload_n 3, 1) := by decide +kernel
theorem dL_law_208 : decode cL_law 208 = .ok (.invokestatic 103, 3) := by decide +kernel
theorem dL_law_211 : decode cL_law 211 = .ok (.ifCond .ne 5, 3) := by decide +kernel
theorem dL_law_214 : decode cL_law 214 = .ok (.iconst 0, 1) := by decide +kernel
theorem dL_law_215 : decode cL_law 215 = .ok (.ireturn, 1) := by decide +kernel
theorem dL_law_216 : decode cL_law 216 = .ok (.iload 9, 2) := by decide +kernel
theorem dL_law_218 : decode cL_law 218 = .ok (.bipush 6, 2) := by decide +kernel
theorem dL_law_220 : decode cL_law 220 = .ok (.if_icmp .gt 98, 3) := by decide +kernel
theorem dL_law_223 : decode cL_law 223 = .ok (.aload_n 1, 1) := by decide +kernel
theorem dL_law_224 : decode cL_law 224 = .ok (.bipush 9, 2) := by decide +kernel
theorem dL_law_226 : decode cL_law 226 = .ok (.invokevirtual 61, 3) := by decide +kernel
theorem dL_law_229 : decode cL_law 229 = .ok (.iload 9, 2) := by decide +kernel
theorem dL_law_231 : decode cL_law 231 = .ok (.iconst 1, 1) := by decide +kernel
theorem dL_law_232 : decode cL_law 232 = .ok (.iadd, 1) := by decide +kernel
theorem dL_law_233 : decode cL_law 233 = .ok (.if_icmp .ne 85, 3) := by decide +kernel
theorem dL_law_236 : decode cL_law 236 = .ok (.iload 8, 2) := by decide +kernel
theorem dL_law_238 : decode cL_law 238 = .ok (.bipush 9, 2) := by decide +kernel
theorem dL_law_240 : decode cL_law 240 = .ok (.ishr, 1) := by decide +kernel
theorem dL_law_241 : decode cL_law 241 = .ok (.iconst 4, 1) := by decide +kernel
theorem dL_law_242 : decode cL_law 242 = .ok (.invokestatic 41, 3) := by decide +kernel
theorem dL_law_245 : decode cL_law 245 = .ok (.ifCond .le 6, 3) := by decide +kernel
theorem dL_law_248 : decode cL_law 248 = .ok (.goto 70, 3) := by decide +kernel
theorem dL_law_251 : decode cL_law 251 = .ok (.aload_n 1, 1) := by decide +kernel
theorem dL_law_252 : decode cL_law 252 = .ok (.invokevirtual 115, 3) := by decide +kernel
theorem dL_law_255 : decode cL_law 255 = .ok (.iload 9, 2) := by decide +kernel
theorem dL_law_257 : decode cL_law 257 = .ok (.if_icmp .eq 5, 3) := by decide +kernel
theorem dL_law_260 : decode cL_law 260 = .ok (.iconst 0, 1) := by decide +kernel
theorem dL_law_261 : decode cL_law 261 = .ok (.ireturn, 1) := by decide +kernel
theorem dL_law_262 : decode cL_law 262 = .ok (.iconst 0, 1) := by decide +kernel
theorem dL_law_263 : decode cL_law 263 = .ok (.istore 10, 2) := by decide +kernel
theorem dL_law_265 : decode cL_law 265 = .ok (.iload 10, 2) := by decide +kernel
theorem dL_law_267 : decode cL_law 267 = .ok (.bipush 48, 2) := by decide +kernel
theorem dL_law_269 : decode cL_law 269 = .ok (.if_icmp .ge 34, 3) := by decide +kernel
theorem dL_law_272 : decode cL_law 272 = .ok (.aload_n 3, 1) := by decide +kernel
theorem dL_law_273 : decode cL_law 273 = .ok (.iload 10, 2) := by decide +kernel
theorem dL_law_275 : decode cL_law 275 = .ok (.aload 5, 2) := by decide +kernel
theorem dL_law_277 : decode cL_law 277 = .ok (.iload 10, 2) := by decide +kernel
theorem dL_law_279 : decode cL_law 279 = .ok (.iaload, 1) := by decide +kernel
theorem dL_law_280 : decode cL_law 280 = .ok (.iastore, 1) := by decide +kernel
theorem dL_law_281 : decode cL_law 281 = .ok (.iload 10, 2) := by decide +kernel
end
section
theorem dL_law_283 : decode cL_law 283 = .ok (.bipush 28, 2) := by decide +kernel
theorem dL_law_285 : decode cL_law 285 = .ok (.if_icmp .ge 12, 3) := by decide +kernel
theorem dL_law_288 : decode cL_law 288 = .ok (.aload_n 2, 1) := by decide +kernel
theorem dL_law_289 : decode cL_law 289 = .ok (.iload 10, 2) := by decide +kernel
theorem dL_law_291 : decode cL_law 291 = .ok (.aload 4, 2) := by decide +kernel
theorem dL_law_293 : decode cL_law 293 = .ok (.iload 10, 2) := by decide +kernel
theorem dL_law_295 : decode cL_law 295 = .ok (.iaload, 1) := by decide +kernel
theorem dL_law_296 : decode cL_law 296 = .ok (.iastore, 1) := by decide +kernel
theorem dL_law_297 : decode cL_law 297 = .ok (.iinc 10 1, 3) := by decide +kernel
theorem dL_law_300 : decode cL_law 300 = .ok (.goto (-35), 3) := by decide +kernel
theorem dL_law_303 : decode cL_law 303 = .ok (.aload_n 1, 1) := by decide +kernel
theorem dL_law_304 : decode cL_law 304 = .ok (.iload 8, 2) := by decide +kernel
theorem dL_law_306 : decode cL_law 306 = .ok (.iconst 3, 1) := by decide +kernel
theorem dL_law_307 : decode cL_law 307 = .ok (.ishr, 1) := by decide +kernel
theorem dL_law_308 : decode cL_law 308 = .ok (.aload_n 2, 1) := by decide +kernel
theorem dL_law_309 : decode cL_law 309 = .ok (.aload_n 3, 1) := by decide +kernel
theorem dL_law_310 : decode cL_law 310 = .ok (.invokestatic 103, 3) := by decide +kernel
theorem dL_law_313 : decode cL_law 313 = .ok (.ifCond .ne 5, 3) := by decide +kernel
theorem dL_law_316 : decode cL_law 316 = .ok (.iconst 0, 1) := by decide +kernel
theorem dL_law_317 : decode cL_law 317 = .ok (.ireturn, 1) := by decide +kernel
theorem dL_law_318 : decode cL_law 318 = .ok (.iinc 6 1, 3) := by decide +kernel
theorem dL_law_321 : decode cL_law 321 = .ok (.goto (-236), 3) := by decide +kernel
theorem dL_law_324 : decode cL_law 324 = .ok (.iconst 1, 1) := by decide +kernel
theorem dL_law_325 : decode cL_law 325 = .ok (.ireturn, 1) := by decide +kernel
end
section
-- ===== end of PART A; then your names; then what follows =====
/-! THE CLAIM OUT OF ONE WALK OF THE LAW'S BODY. Your part is whole_start (and what it stands on); all else here is the same for every law, but numbers. -/
def R_law : String := "TwoFacedTilesLaw"
def lw_P (b : Addr) (xs : List Int32) (args : Array Value) (s : State) : Prop := args = #[.ref b] ∧ s.IntsAt b xs ∧ xs.length ≤ 260 ∧ (Jvm.Cond.and given_1 narrow_1).before args s = true
/-- what a walk over the start with the record d0 says of its end, said of the start itself -/
theorem lw_closed {s t : State} {o : Outcome} {d0 : Drawn} {L : List Loc} {k n : Nat} (hd0 : s.drawn.sameBut d0 lw_cs) (hv : ∃ v, o = .returned v) (hW : (s.setDrawn d0).WarmedH t.vm) (hs : (s.setDrawn d0).sameButNew ({ t with vm := s.vm } : State) L k n) : State.butDraws s t lw_cs (fun t1 => Framed s o t1 L k n) := by
  have h2 : t.drawn = d0 := congrArg State.drawn hs.1
  refine ⟨⟨hv, hW, State.sameButNew.setDrawn hs s.drawn⟩, ?_, by decide⟩
  rw [h2]
  exact hd0
def lw_Q (_ : Array Value) (s : State) (o : Outcome) (t : State) : Prop := o = .returned (some (.int 1)) ∧ State.butDraws s t lw_cs (fun t1 => Framed s o t1 [] 600130 7301080)
def lw_Z (below : List Frame) (a : Array Value) (s : State) : State → Prop := fun t => ∃ o, t.status = .running ∧ Ended t below o ∧ lw_Q a s o t
/-- the law's own end, with 1 on the stack, nothing written that was there before, its room as the claim has it; d0: the record of draws at this point (at the entry s.drawn: begin with 'refine W.base ?_' and 'have hd0 := Drawn.sameBut.refl s.drawn lw_cs') -/
theorem lw_ret {p : Program} {l : Launch} {e : Env} {s : State} {m : MethodId} {below : List Frame} {meth : Method} {c : Code} {b : Nat} {d0 : Drawn} (hd0 : s.drawn.sameBut d0 lw_cs) (hx : p.tables.exec = Jvm.exec) (hb : c.code = code) (hr : meth.sig.returnType = ret) (hlocks : meth.locks = false) {pc : Nat} {H : Heap} {ls : Array Slot} (hdg : decode code pc = .ok (.ireturn, 1)) : W p l e room_1 (s.setDrawn d0) m #[Value.ref b] below meth c H [] 600130 7301080 (lw_Z below #[Value.ref b] s) (F0 m pc ls [.int 1]) := by
  intro T hT X
  obtain ⟨fs, hret, hrun, hended, hW, hframe⟩ := X.leave (v := some (.int 1)) (hlocks := hlocks) (fun h => by rw [hr] at h; cases h)
  have hmeth' : T.vm.method? m = some meth := X.method'
  refine ⟨T.setFrames fs, ?_, .returned (some (.int 1)), hrun, hended, rfl, lw_closed hd0 ⟨_, rfl⟩ hW hframe⟩
  jvm_step X.here [X.here.top, hx, hb, hdg, hmeth', hr, ret, narrow_b1]
  (try refine ⟨rfl, ?_⟩); (try refine ⟨rfl, ?_⟩)
  first | (intro acts; rw [hret _ acts rfl rfl rfl]) | rw [hret _ _ rfl rfl rfl]
  exact Steps.refl _
/-- what holds at the law's entry: the machine, the code, the tables' words (any of lw_tbl by 'hts w (by decide +kernel)'), the script of L ints xs at the cell b, what the Statement gives of the start (any of its parts by flat_of_before) -/
def lw_At (p : Program) (s : State) (m : MethodId) (meth : Method) (c : Code) (b L : Nat) (xs : Nat → Int32) : Prop :=
  p.tables.exec = Jvm.exec ∧ c.code = code ∧ meth.sig.returnType = ret ∧ c.maxLocals = 11 ∧ s.vm.findClass R_law = some m.cls ∧ (∀ w ∈ lw_tbl, w.before #[Value.ref b] s = true) ∧ va_X b L xs s s.heap ∧ b < s.heap.size ∧ meth.locks = false ∧ (Jvm.Cond.and given_1 narrow_1).before #[Value.ref b] s = true
-- ===== YOUR PART BEGINS =====
end
