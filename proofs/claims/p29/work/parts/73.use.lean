/-! the class's calls as the law makes them: with numbers that are within -/
section US
variable {v : XV} {S : AS} {L : List AS} {B : List Nat}
theorem us_cell (hX : RX v S L B) {k w : Nat} (hk : k < S.n) (hw : w < 4) {Q : Int32 → XV → Prop} (h : ∀ v', RX v' S L B → Q (cellV S k w) v') : wp_X6_cell v (nI k) (nI w) Q (fun (_ : String) (_ : XV) => False) := by
  have hn := hX.2.1.n12
  refine sp_X6_cell hX (fun k' w' hk' hw' ea eb v' hv' => ?_) (fun e => e ⟨k, hk, rfl⟩) (fun _ _ _ e => e (rng_of (lo := 0) (hi := 3) rfl (Nat.zero_le _) (by omega) (by omega)))
  obtain rfl : k = k' := (nI_eq (by omega) (by omega)).mp ea
  obtain rfl : w = w' := (nI_eq (by omega) (by omega)).mp eb
  exact h v' hv'
theorem us_color (hX : RX v S L B) {k s : Nat} (hk : k < S.n) (hs : s < 4) (c : Bool) {Q : Int32 → XV → Prop} (h : ∀ v', RX v' S L B → Q (colV S k s c) v') : wp_X6_color v (nI k) (nI s) (nI c.toNat) Q (fun (_ : String) (_ : XV) => False) := by
  have hn := hX.2.1.n12
  refine sp_X6_color hX c (fun k' s' hk' hs' ea eb v' hv' => ?_) (fun e => e ⟨⟨k, hk, rfl⟩, rng_of (lo := 0) (hi := 3) rfl (Nat.zero_le _) (by omega) (by omega)⟩)
  obtain rfl : k = k' := (nI_eq (by omega) (by omega)).mp ea
  obtain rfl : s = s' := (nI_eq (by omega) (by omega)).mp eb
  exact h v' hv'
theorem us_tile (hX : RX v S L B) {t w : Nat} (ht : t < S.t) (hw : w < 4) {Q : Int32 → XV → Prop} (h : ∀ v', RX v' S L B → Q (tileV S t w) v') : wp_X6_tile v (nI t) (nI w) Q (fun (_ : String) (_ : XV) => False) := by
  have h12 := hX.2.1.2.2.2.1
  refine sp_X6_tile hX (fun k' w' hk' hw' ea eb v' hv' => ?_) (fun e => e ⟨t, ht, rfl⟩) (fun _ _ _ e => e (rng_of (lo := 0) (hi := 3) rfl (Nat.zero_le _) (by omega) (by omega)))
  obtain rfl : t = k' := (nI_eq (by omega) (by omega)).mp ea
  obtain rfl : w = w' := (nI_eq (by omega) (by omega)).mp eb
  exact h v' hv'
theorem us_count (hX : RX v S L B) {w : Nat} (hw : w < 10) {Q : Int32 → XV → Prop} (h : ∀ v', RX v' S L B → Q (nI (cntV S L.length w)) v') : wp_X6_count v (nI w) Q (fun (_ : String) (_ : XV) => False) := by
  refine sp_X6_count hX (fun w' hw' ea v' hv' => ?_) (fun e => e (rng_of (lo := 0) (hi := 9) rfl (Nat.zero_le _) (by omega) (by omega)))
  obtain rfl : w = w' := (nI_eq (by omega) (by omega)).mp ea
  exact h v' hv'
theorem us_layings (hX : RX v S L B) {m w : Nat} (h1 : 1 ≤ m) (h50 : m ≤ 50) (hw : w < 3) {Q : Int32 → XV → Prop} (h : ∀ v', RX v' S L B → Q (nI (srV S m w)) v') : wp_X6_layings v (nI m) (nI w) Q (fun (_ : String) (_ : XV) => False) := by
  refine sp_X6_layings hX (fun m' w' _ _ hw' ea eb v' hv' => ?_) (fun e => e ⟨rng_of (lo := 1) (hi := 50) rfl h1 h50 (by omega), rng_of (lo := 0) (hi := 2) rfl (Nat.zero_le _) (by omega) (by omega)⟩)
  obtain rfl : m = m' := (nI_eq (by omega) (by omega)).mp ea
  obtain rfl : w = w' := (nI_eq (by omega) (by omega)).mp eb
  exact h v' hv'
theorem us_why (hX : RX v S L B) {k p : Nat} (hk : k < S.n) (hp : p < 8 * S.t) {Q : Int32 → XV → Prop} (h : ∀ v', RX v' S L B → Q (nI (why S k p)) v') : wp_X6_why v (nI k) (nI p) Q (fun (_ : String) (_ : XV) => False) := by
  have hn := hX.2.1.n12
  have h12 := hX.2.1.2.2.2.1
  refine sp_X6_why hX (fun k' p' hk' hp' ea eb v' hv' => ?_) (fun e => e ⟨⟨k, hk, rfl⟩, ⟨p, hp, rfl⟩⟩)
  obtain rfl : k = k' := (nI_eq (by omega) (by omega)).mp ea
  obtain rfl : p = p' := (nI_eq (by omega) (by omega)).mp eb
  exact h v' hv'
theorem us_begin (hX : RX v S L B) {r c : Nat} (hr : 1 ≤ r ∧ r ≤ 3) (hc : 1 ≤ c ∧ c ≤ 4) {Q : Int32 → XV → Prop} (h : ∀ v', RX v' ((r, c, S.ru, S.t, S.F, fun _ => none, fun _ => false) : AS) (pushS L S) B → Q (nI (r * c)) v') : wp_X6_begin v (nI r) (nI c) Q (fun (_ : String) (_ : XV) => False) := by
  refine sp_X6_begin hX (fun r' c' hr' hc' ea eb v' hv' => ?_) (fun e => e ⟨rng_of (lo := 1) (hi := 3) rfl hr.1 hr.2 (by omega), rng_of (lo := 1) (hi := 4) rfl hc.1 hc.2 (by omega)⟩)
  obtain rfl : r = r' := (nI_eq (by omega) (by omega)).mp ea
  obtain rfl : c = c' := (nI_eq (by omega) (by omega)).mp eb
  exact h v' hv'
theorem us_addTile (hX : RX v S L B) {f o : Nat} (hf : f ≤ 9999) (ho : o ≤ 9999) (ht : S.t ≤ 11) {Q : Int32 → XV → Prop} (h : ∀ v', RX v' (addF S f o) (pushS L S) B → Q (nI S.t) v') : wp_X6_addTile v (nI f) (nI o) Q (fun (_ : String) (_ : XV) => False) := by
  refine sp_X6_addTile hX (fun f' o' hf' ho' ea eb _ v' hv' => ?_) (fun e => e ⟨rng_of (lo := 0) (hi := 9999) rfl (Nat.zero_le _) hf (by omega), rng_of (lo := 0) (hi := 9999) rfl (Nat.zero_le _) ho (by omega)⟩) (fun _ e => by omega)
  obtain rfl : f = f' := (nI_eq (by omega) (by omega)).mp ea
  obtain rfl : o = o' := (nI_eq (by omega) (by omega)).mp eb
  exact h v' hv'
theorem us_dropTile (hX : RX v S L B) {n : Nat} (hn : S.t = n + 1) (hc : cellOf S n = none) {Q : Int32 → XV → Prop} (h : ∀ v', RX v' (tS S n) (pushS L S) B → Q (nI n) v') : wp_X6_dropTile v Q (fun (_ : String) (_ : XV) => False) := by
  refine sp_X6_dropTile hX (fun n' hn' hc' v' hv' => ?_) (fun e => e ⟨n, hn, hc⟩)
  obtain rfl : n = n' := by omega
  exact h v' hv'
theorem us_setRule (hX : RX v S L B) {x : Nat} (hx : x ≤ 2) {Q : Int32 → XV → Prop} (h : ∀ v', RX v' (ruS S x) (pushS L S) B → Q (nI S.ru) v') : wp_X6_setRule v (nI x) Q (fun (_ : String) (_ : XV) => False) := by
  refine sp_X6_setRule hX (fun x' hx' ea v' hv' => ?_) (fun e => e (rng_of (lo := 0) (hi := 2) rfl (Nat.zero_le _) hx (by omega)))
  obtain rfl : x = x' := (nI_eq (by omega) (by omega)).mp ea
  exact h v' hv'
theorem us_cut (hX : RX v S L B) {sd cl : Nat} (hs : 1 ≤ sd ∧ sd ≤ 999999999) (hc : 1 ≤ cl ∧ cl ≤ 9) {Q : Int32 → XV → Prop} (h : ∀ v', RX v' (cutA S sd cl) (pushS L S) B → Q (nI S.n) v') : wp_X6_cut v (nI sd) (nI cl) Q (fun (_ : String) (_ : XV) => False) := by
  refine sp_X6_cut hX (fun r' c' hr' hc' ea eb v' hv' => ?_) (fun e => e ⟨rng_of (lo := 1) (hi := 999999999) rfl hs.1 hs.2 (by omega), rng_of (lo := 1) (hi := 9) rfl hc.1 hc.2 (by omega)⟩)
  obtain rfl : sd = r' := (nI_eq (by omega) (by omega)).mp ea
  obtain rfl : cl = c' := (nI_eq (by omega) (by omega)).mp eb
  exact h v' hv'
theorem us_lay (hX : RX v S L B) {k p : Nat} (hk : k < S.n) (hp : p < 8 * S.t) (hw : why S k p = 0) {Q : Int32 → XV → Prop} (h : ∀ v', RX v' (S.put k (some p)) (pushS L S) B → Q (nI (empties (S.put k (some p)))) v') : wp_X6_lay v (nI k) (nI p) Q (fun (_ : String) (_ : XV) => False) := by
  have hn := hX.2.1.n12
  have h12 := hX.2.1.2.2.2.1
  refine sp_X6_lay hX (fun k' p' hk' hp' ea eb _ v' hv' => ?_) (fun e => e ⟨⟨k, hk, rfl⟩, ⟨p, hp, rfl⟩⟩) (fun k' p' hk' hp' ea eb hw' v' hv' => ?_)
  · obtain rfl : k = k' := (nI_eq (by omega) (by omega)).mp ea
    obtain rfl : p = p' := (nI_eq (by omega) (by omega)).mp eb
    exact h v' hv'
  · obtain rfl : k = k' := (nI_eq (by omega) (by omega)).mp ea
    obtain rfl : p = p' := (nI_eq (by omega) (by omega)).mp eb
    exact hw' hw
theorem us_take (hX : RX v S L B) {k p : Nat} (hk : k < S.n) (hp : S.P k = some p) (hx : S.X k = false) {Q : Int32 → XV → Prop} (h : ∀ v', RX v' (S.put k none) (pushS L S) B → Q (nI p) v') : wp_X6_take v (nI k) Q (fun (_ : String) (_ : XV) => False) := by
  have hn := hX.2.1.n12
  refine sp_X6_take hX (fun k' p' hk' ea hp' hx' v' hv' => ?_) (fun e => e ⟨k, hk, rfl⟩) (fun k' hk' ea e => ?_)
  · obtain rfl : k = k' := (nI_eq (by omega) (by omega)).mp ea
    rw [hp] at hp'
    cases hp'
    exact h v' hv'
  · obtain rfl : k = k' := (nI_eq (by omega) (by omega)).mp ea
    rcases e with e | e
    · rw [hp] at e; cases e
    · rw [hx] at e; cases e
theorem us_fix (hX : RX v S L B) {k p : Nat} (hk : k < S.n) (hp : S.P k = some p) {Q : Int32 → XV → Prop} (h : ∀ v', RX v' (xS S k (!S.X k)) (pushS L S) B → Q (nI (!S.X k).toNat) v') : wp_X6_fix v (nI k) Q (fun (_ : String) (_ : XV) => False) := by
  have hn := hX.2.1.n12
  refine sp_X6_fix hX (fun k' p' hk' ea hp' v' hv' => ?_) (fun e => e ⟨k, hk, rfl⟩) (fun k' hk' ea e => ?_)
  · obtain rfl : k = k' := (nI_eq (by omega) (by omega)).mp ea
    exact h v' hv'
  · obtain rfl : k = k' := (nI_eq (by omega) (by omega)).mp ea
    rw [hp] at e; cases e
theorem us_solve (hX : RX v S L B) (h1 : (srch S 1).1 = 1) {Q : Int32 → XV → Prop} (h : ∀ v', RX v' (srch S 1).2.2.2.2 (pushS L S) B → Q (nI (empties S)) v') : wp_X6_solve v Q (fun (_ : String) (_ : XV) => False) :=
  sp_X6_solve hX (fun _ v' hv' => h v' hv') (fun e _ _ => e h1)
theorem us_undo {L0 : List AS} {T : AS} (hX : RX v S (L0 ++ [T]) B) {Q : Int32 → XV → Prop} (h : ∀ v', RX v' T L0 B → Q (nI L0.length) v') : wp_X6_undo v Q (fun (_ : String) (_ : XV) => False) := by
  refine sp_X6_undo hX (fun e => by simp at e) (fun L1 T1 e v' hv' => ?_)
  obtain ⟨rfl, e4⟩ := List.append_inj' e rfl
  obtain rfl : T = T1 := by
    have := congrArg (fun l => l.head?) e4
    exact Option.some.inj this
  exact h v' hv'
end US
