/-! THE LAW: one state of the puzzle, seen by both -/
def INV (vX : XV) (vM : MV) (_ : OV) : Prop := ∃ (S : AS) (L : List AS) (B : List Nat), RX vX S L B ∧ RM vM S L B
theorem cmp_self (x : Int64) : lg_cmp x x = 0 := by
  unfold lg_cmp
  rw [if_neg (fun z => Int64.lt_irrefl z), if_pos rfl]
theorem law_ok {N : Prop} {th k r : Int32} {x : Int64} (h : th = k) (hx : k = 0 → x = Int32.toInt64 r) (hN : N) : (th = k → (¬ k = 0 → N) ∧ (k = 0 → ((lg_cmp x (Int32.toInt64 r)) = 0 → N) ∧ (¬ (lg_cmp x (Int32.toInt64 r)) = 0 → False))) ∧ (¬ th = k → False) := by
  refine ⟨fun _ => ⟨fun _ => hN, fun e => ⟨fun _ => hN, fun z => ?_⟩⟩, fun z => z h⟩
  rw [hx e] at z
  exact z (cmp_self _)
theorem law_0 {N : Prop} {th r : Int32} {vO : OV} (h : th = 0) (hN : N) : (th = 0 → (¬ (0 : Int32) = 0 → N) ∧ ((0 : Int32) = 0 → ((lg_cmp (vp_updL vO 0 (Int32.toInt64 r) 0) (Int32.toInt64 r)) = 0 → N) ∧ (¬ (lg_cmp (vp_updL vO 0 (Int32.toInt64 r) 0) (Int32.toInt64 r)) = 0 → False))) ∧ (¬ th = 0 → False) := law_ok h (fun _ => pk_uLs) hN
theorem law_1 {N : Prop} {th r : Int32} {x : Int64} (h : th = 1) (hN : N) : (th = 1 → (¬ (1 : Int32) = 0 → N) ∧ ((1 : Int32) = 0 → ((lg_cmp x (Int32.toInt64 r)) = 0 → N) ∧ (¬ (lg_cmp x (Int32.toInt64 r)) = 0 → False))) ∧ (¬ th = 1 → False) := law_ok h (fun z => absurd z (by decide)) hN
theorem law_2 {N : Prop} {th r : Int32} {x : Int64} (h : th = 2) (hN : N) : (th = 2 → (¬ (2 : Int32) = 0 → N) ∧ ((2 : Int32) = 0 → ((lg_cmp x (Int32.toInt64 r)) = 0 → N) ∧ (¬ (lg_cmp x (Int32.toInt64 r)) = 0 → False))) ∧ (¬ th = 2 → False) := law_ok h (fun z => absurd z (by decide)) hN
theorem rng_of {x : Int32} {n lo hi : Nat} (e : x = nI n) (h1 : lo ≤ n) (h2 : n ≤ hi) (hb : hi < 2 ^ 31) : nI lo ≤ x ∧ x ≤ nI hi := by
  rw [e]
  exact ⟨(nI_leI (by omega) (by omega)).mpr h1, (nI_leI (by omega) hb).mpr h2⟩
section LW
variable {xs : Nat → Int32} {i : Nat} {N : XV → MV → OV → Prop} {vX : XV} {vM : MV} {vO : OV} {S : AS} {L : List AS} {B : List Nat}
theorem law_begin (hN : ∀ vX vM vO, INV vX vM vO → N vX vM vO) (hX : RX vX S L B) (hM : RM vM S L B) : wp_L_law_156 xs i N vX vM vO := by
  unfold wp_L_law_156 wp_L_begin
  refine sp_X6_begin hX (fun r c hr hc ea eb v' hv' f hf o ho => ?_) (fun e => ⟨rfl, ?_⟩)
  · subst hf ho
    refine sp_X7_begin hM (fun r' c' hr' hc' ea' eb' M' hM' ht => ?_) (fun e => absurd ⟨rng_of (lo := 1) (hi := 3) ea hr.1 hr.2 (by omega), rng_of (lo := 1) (hi := 4) eb hc.1 hc.2 (by omega)⟩ e)
    rw [ea] at ea'
    rw [eb] at eb'
    obtain rfl : r = r' := (nI_eq (by omega) (by omega)).mp ea'
    obtain rfl : c = c' := (nI_eq (by omega) (by omega)).mp eb'
    exact law_0 ht (hN _ _ _ ⟨_, _, _, hv', hM'⟩)
  · refine sp_X7_begin hM (fun r c hr hc ea eb _ _ _ => absurd ⟨rng_of (lo := 1) (hi := 3) ea hr.1 hr.2 (by omega), rng_of (lo := 1) (hi := 4) eb hc.1 hc.2 (by omega)⟩ e) (fun _ M' hM' ht => ?_)
    exact law_1 ht (hN _ _ _ ⟨_, _, _, hX, hM'⟩)
theorem law_addTile (hN : ∀ vX vM vO, INV vX vM vO → N vX vM vO) (hX : RX vX S L B) (hM : RM vM S L B) : wp_L_law_224 xs i N vX vM vO := by
  unfold wp_L_law_224 wp_L_addTile
  have rg : ∀ {a b : Int32} {f o : Nat}, f ≤ 9999 → o ≤ 9999 → a = nI f → b = nI o → ((0 ≤ a ∧ a ≤ 9999) ∧ (0 ≤ b ∧ b ≤ 9999)) := fun hf ho ea eb => ⟨rng_of (lo := 0) (hi := 9999) ea (Nat.zero_le _) hf (by omega), rng_of (lo := 0) (hi := 9999) eb (Nat.zero_le _) ho (by omega)⟩
  refine sp_X6_addTile hX (fun f o hf ho ea eb ht11 v' hv' ff hff oo hoo => ?_) (fun e => Or.inl ⟨rfl, ?_⟩) (fun e e12 => Or.inr ⟨rfl, ?_⟩)
  · subst hff hoo
    refine sp_X7_addTile hM (fun f' o' hf' ho' ea' eb' _ M' hM' ht => ?_) (fun e => absurd (rg hf ho ea eb) e) (fun _ e => absurd e (by omega))
    rw [ea] at ea'
    rw [eb] at eb'
    obtain rfl : f = f' := (nI_eq (by omega) (by omega)).mp ea'
    obtain rfl : o = o' := (nI_eq (by omega) (by omega)).mp eb'
    exact law_0 ht (hN _ _ _ ⟨_, _, _, hv', hM'⟩)
  · refine sp_X7_addTile hM (fun f o hf ho ea eb _ _ _ _ => absurd (rg hf ho ea eb) e) (fun _ M' hM' ht => ?_) (fun z _ => absurd z e)
    exact law_1 ht (hN _ _ _ ⟨_, _, _, hX, hM'⟩)
  · refine sp_X7_addTile hM (fun f o hf ho ea eb _ _ _ _ => absurd e12 (by omega)) (fun z => absurd e z) (fun _ _ M' hM' ht => ?_)
    exact law_2 ht (hN _ _ _ ⟨_, _, _, hX, hM'⟩)
theorem law_dropTile (hN : ∀ vX vM vO, INV vX vM vO → N vX vM vO) (hX : RX vX S L B) (hM : RM vM S L B) : wp_L_law_292 xs i N vX vM vO := by
  unfold wp_L_law_292 wp_L_dropTile
  refine sp_X6_dropTile hX (fun n hn hc v' hv' f hf o ho => ?_) (fun e => ⟨rfl, ?_⟩)
  · subst hf ho
    refine sp_X7_dropTile hM (fun n' hn' hc' M' hM' ht => ?_) (fun e => absurd ⟨n, hn, hc⟩ e)
    obtain rfl : n = n' := by omega
    exact law_0 ht (hN _ _ _ ⟨_, _, _, hv', hM'⟩)
  · refine sp_X7_dropTile hM (fun n hn hc _ _ _ => absurd ⟨n, hn, hc⟩ e) (fun _ M' hM' ht => ?_)
    exact law_1 ht (hN _ _ _ ⟨_, _, _, hX, hM'⟩)
theorem law_setRule (hN : ∀ vX vM vO, INV vX vM vO → N vX vM vO) (hX : RX vX S L B) (hM : RM vM S L B) : wp_L_law_336 xs i N vX vM vO := by
  unfold wp_L_law_336 wp_L_setRule
  refine sp_X6_setRule hX (fun x hx ea v' hv' f hf o ho => ?_) (fun e => ⟨rfl, ?_⟩)
  · subst hf ho
    refine sp_X7_setRule hM (fun x' hx' ea' M' hM' ht => ?_) (fun e => absurd (rng_of (lo := 0) (hi := 2) ea (Nat.zero_le _) hx (by omega)) e)
    rw [ea] at ea'
    obtain rfl : x = x' := (nI_eq (by omega) (by omega)).mp ea'
    exact law_0 ht (hN _ _ _ ⟨_, _, _, hv', hM'⟩)
  · refine sp_X7_setRule hM (fun x hx ea _ _ _ => absurd (rng_of (lo := 0) (hi := 2) ea (Nat.zero_le _) hx (by omega)) e) (fun _ M' hM' ht => ?_)
    exact law_1 ht (hN _ _ _ ⟨_, _, _, hX, hM'⟩)
theorem law_cut (hN : ∀ vX vM vO, INV vX vM vO → N vX vM vO) (hX : RX vX S L B) (hM : RM vM S L B) : wp_L_law_392 xs i N vX vM vO := by
  unfold wp_L_law_392 wp_L_cut
  refine sp_X6_cut hX (fun r c hr hc ea eb v' hv' f hf o ho => ?_) (fun e => ⟨rfl, ?_⟩)
  · subst hf ho
    refine sp_X7_cut hM (fun r' c' hr' hc' ea' eb' M' hM' ht => ?_) (fun e => absurd ⟨rng_of (lo := 1) (hi := 999999999) ea hr.1 hr.2 (by omega), rng_of (lo := 1) (hi := 9) eb hc.1 hc.2 (by omega)⟩ e)
    rw [ea] at ea'
    rw [eb] at eb'
    obtain rfl : r = r' := (nI_eq (by omega) (by omega)).mp ea'
    obtain rfl : c = c' := (nI_eq (by omega) (by omega)).mp eb'
    exact law_0 ht (hN _ _ _ ⟨_, _, _, hv', hM'⟩)
  · refine sp_X7_cut hM (fun r c hr hc ea eb _ _ _ => absurd ⟨rng_of (lo := 1) (hi := 999999999) ea hr.1 hr.2 (by omega), rng_of (lo := 1) (hi := 9) eb hc.1 hc.2 (by omega)⟩ e) (fun _ M' hM' ht => ?_)
    exact law_1 ht (hN _ _ _ ⟨_, _, _, hX, hM'⟩)
theorem law_lay (hN : ∀ vX vM vO, INV vX vM vO → N vX vM vO) (hX : RX vX S L B) (hM : RM vM S L B) : wp_L_law_460 xs i N vX vM vO := by
  have hn := hM.2.1.n12
  have htt := hM.2.1.2.2.2.1
  unfold wp_L_law_460 wp_L_lay
  refine sp_X6_lay hX (fun k p hk hp ea eb hw v' hv' f hf o ho => ?_) (fun e => Or.inl ⟨rfl, ?_⟩) (fun k p hk hp ea eb hw v' hv' => Or.inr ⟨rfl, ?_⟩)
  · subst hf ho
    refine sp_X7_lay hM (fun k' p' hk' hp' ea' eb' _ M' hM' ht => ?_) (fun e => absurd ⟨⟨k, hk, ea⟩, ⟨p, hp, eb⟩⟩ e) (fun k' p' hk' hp' ea' eb' hw' _ _ _ => ?_)
    · rw [ea] at ea'
      rw [eb] at eb'
      obtain rfl : k = k' := (nI_eq (by omega) (by omega)).mp ea'
      obtain rfl : p = p' := (nI_eq (by omega) (by omega)).mp eb'
      exact law_0 ht (hN _ _ _ ⟨_, _, _, hv', hM'⟩)
    · rw [ea] at ea'
      rw [eb] at eb'
      obtain rfl : k = k' := (nI_eq (by omega) (by omega)).mp ea'
      obtain rfl : p = p' := (nI_eq (by omega) (by omega)).mp eb'
      exact absurd hw hw'
  · refine sp_X7_lay hM (fun k p hk hp ea eb _ _ _ _ => absurd ⟨⟨k, hk, ea⟩, ⟨p, hp, eb⟩⟩ e) (fun _ M' hM' ht => ?_) (fun k p hk hp ea eb _ _ _ _ => absurd ⟨⟨k, hk, ea⟩, ⟨p, hp, eb⟩⟩ e)
    exact law_1 ht (hN _ _ _ ⟨_, _, _, hX, hM'⟩)
  · refine sp_X7_lay hM (fun k' p' hk' hp' ea' eb' hw' _ _ _ => ?_) (fun e => absurd ⟨⟨k, hk, ea⟩, ⟨p, hp, eb⟩⟩ e) (fun _ _ _ _ _ _ _ M' hM' ht => ?_)
    · rw [ea] at ea'
      rw [eb] at eb'
      obtain rfl : k = k' := (nI_eq (by omega) (by omega)).mp ea'
      obtain rfl : p = p' := (nI_eq (by omega) (by omega)).mp eb'
      exact absurd hw' hw
    · exact law_2 ht (hN _ _ _ ⟨_, _, _, hv', hM'⟩)
theorem law_take (hN : ∀ vX vM vO, INV vX vM vO → N vX vM vO) (hX : RX vX S L B) (hM : RM vM S L B) : wp_L_law_528 xs i N vX vM vO := by
  have hn := hM.2.1.n12
  unfold wp_L_law_528 wp_L_take
  refine sp_X6_take hX (fun k p hk ea hp hx v' hv' f hf o ho => ?_) (fun e => Or.inl ⟨rfl, ?_⟩) (fun k hk ea hc => Or.inr ⟨rfl, ?_⟩)
  · subst hf ho
    refine sp_X7_take hM (fun k' p' hk' ea' hp' hx' M' hM' ht => ?_) (fun e => absurd ⟨k, hk, ea⟩ e) (fun k' hk' ea' hc' _ _ _ => ?_)
    · rw [ea] at ea'
      obtain rfl : k = k' := (nI_eq (by omega) (by omega)).mp ea'
      rw [hp] at hp'
      cases hp'
      exact law_0 ht (hN _ _ _ ⟨_, _, _, hv', hM'⟩)
    · rw [ea] at ea'
      obtain rfl : k = k' := (nI_eq (by omega) (by omega)).mp ea'
      rcases hc' with z | z
      · rw [hp] at z; cases z
      · rw [hx] at z; cases z
  · refine sp_X7_take hM (fun k p hk ea _ _ _ _ _ => absurd ⟨k, hk, ea⟩ e) (fun _ M' hM' ht => ?_) (fun k hk ea _ _ _ _ => absurd ⟨k, hk, ea⟩ e)
    exact law_1 ht (hN _ _ _ ⟨_, _, _, hX, hM'⟩)
  · refine sp_X7_take hM (fun k' p' hk' ea' hp' hx' _ _ _ => ?_) (fun e => absurd ⟨k, hk, ea⟩ e) (fun _ _ _ _ M' hM' ht => ?_)
    · rw [ea] at ea'
      obtain rfl : k = k' := (nI_eq (by omega) (by omega)).mp ea'
      rcases hc with z | z
      · rw [hp'] at z; cases z
      · rw [hx'] at z; cases z
    · exact law_2 ht (hN _ _ _ ⟨_, _, _, hX, hM'⟩)
theorem law_fix (hN : ∀ vX vM vO, INV vX vM vO → N vX vM vO) (hX : RX vX S L B) (hM : RM vM S L B) : wp_L_law_584 xs i N vX vM vO := by
  have hn := hM.2.1.n12
  unfold wp_L_law_584 wp_L_fix
  refine sp_X6_fix hX (fun k p hk ea hp v' hv' f hf o ho => ?_) (fun e => Or.inl ⟨rfl, ?_⟩) (fun k hk ea hc => Or.inr ⟨rfl, ?_⟩)
  · subst hf ho
    refine sp_X7_fix hM (fun k' p' hk' ea' hp' M' hM' ht => ?_) (fun e => absurd ⟨k, hk, ea⟩ e) (fun k' hk' ea' hc' _ _ _ => ?_)
    · rw [ea] at ea'
      obtain rfl : k = k' := (nI_eq (by omega) (by omega)).mp ea'
      exact law_0 ht (hN _ _ _ ⟨_, _, _, hv', hM'⟩)
    · rw [ea] at ea'
      obtain rfl : k = k' := (nI_eq (by omega) (by omega)).mp ea'
      rw [hp] at hc'
      cases hc'
  · refine sp_X7_fix hM (fun k p hk ea _ _ _ _ => absurd ⟨k, hk, ea⟩ e) (fun _ M' hM' ht => ?_) (fun k hk ea _ _ _ _ => absurd ⟨k, hk, ea⟩ e)
    exact law_1 ht (hN _ _ _ ⟨_, _, _, hX, hM'⟩)
  · refine sp_X7_fix hM (fun k' p' hk' ea' hp' _ _ _ => ?_) (fun e => absurd ⟨k, hk, ea⟩ e) (fun _ _ _ _ M' hM' ht => ?_)
    · rw [ea] at ea'
      obtain rfl : k = k' := (nI_eq (by omega) (by omega)).mp ea'
      rw [hp'] at hc
      cases hc
    · exact law_2 ht (hN _ _ _ ⟨_, _, _, hX, hM'⟩)
theorem law_clear (hN : ∀ vX vM vO, INV vX vM vO → N vX vM vO) (hX : RX vX S L B) (hM : RM vM S L B) : wp_L_law_640 xs i N vX vM vO := by
  unfold wp_L_law_640
  exact sp_X6_clear hX (fun v' hv' => sp_X7_clear hM (fun M' hM' _ => bq_t rfl (hN _ _ _ ⟨_, _, _, hv', hM'⟩)))
theorem law_turnOver (hN : ∀ vX vM vO, INV vX vM vO → N vX vM vO) (hX : RX vX S L B) (hM : RM vM S L B) : wp_L_law_653 xs i N vX vM vO := by
  unfold wp_L_law_653
  exact sp_X6_turnOver hX (fun v' hv' => sp_X7_turnOver hM (fun M' hM' _ => bq_t rfl (hN _ _ _ ⟨_, _, _, hv', hM'⟩)))
theorem law_solve (hN : ∀ vX vM vO, INV vX vM vO → N vX vM vO) (hX : RX vX S L B) (hM : RM vM S L B) : wp_L_law_666 xs i N vX vM vO := by
  unfold wp_L_law_666 wp_L_solve
  refine sp_X6_solve hX (fun e v' hv' f hf o ho => ?_) (fun e v' hv' => ⟨rfl, ?_⟩)
  · subst hf ho
    refine sp_X7_solve hM (fun _ M' hM' ht => ?_) (fun z => absurd e z)
    exact law_0 ht (hN _ _ _ ⟨_, _, _, hv', hM'⟩)
  · refine sp_X7_solve hM (fun z => absurd z e) (fun _ M' hM' ht => ?_)
    exact law_1 ht (hN _ _ _ ⟨_, _, _, hv', hM'⟩)
theorem law_append (hN : ∀ vX vM vO, INV vX vM vO → N vX vM vO) (hX : RX vX S L B) (hM : RM vM S L B) : wp_L_law_710 xs i N vX vM vO := by
  unfold wp_L_law_710 wp_L_append
  refine sp_X6_append hX (fun c c1 c2 ea h59 v' hv' f hf o ho => ?_) (fun e => Or.inl ⟨rfl, ?_⟩) (fun e e60 => Or.inr ⟨rfl, ?_⟩)
  · subst hf ho
    refine sp_X7_append hM (fun c' c1' c2' ea' _ M' hM' ht => ?_) (fun e => absurd (rng_of (lo := 33) (hi := 126) ea c1 c2 (by omega)) e) (fun _ e => absurd e (by omega))
    rw [ea] at ea'
    obtain rfl : c = c' := (nI_eq (by omega) (by omega)).mp ea'
    exact law_0 ht (hN _ _ _ ⟨_, _, _, hv', hM'⟩)
  · refine sp_X7_append hM (fun c c1 c2 ea _ _ _ _ => absurd (rng_of (lo := 33) (hi := 126) ea c1 c2 (by omega)) e) (fun _ M' hM' ht => ?_) (fun z _ => absurd z e)
    exact law_1 ht (hN _ _ _ ⟨_, _, _, hX, hM'⟩)
  · refine sp_X7_append hM (fun c c1 c2 ea _ _ _ _ => absurd e60 (by omega)) (fun z => absurd e z) (fun _ _ M' hM' ht => ?_)
    exact law_2 ht (hN _ _ _ ⟨_, _, _, hX, hM'⟩)
theorem law_clearBuffer (hN : ∀ vX vM vO, INV vX vM vO → N vX vM vO) (hX : RX vX S L B) (hM : RM vM S L B) : wp_L_law_766 xs i N vX vM vO := by
  unfold wp_L_law_766
  exact sp_X6_clearBuffer hX (fun v' hv' => sp_X7_clearBuffer hM (fun M' hM' _ => bq_t rfl (hN _ _ _ ⟨_, _, _, hv', hM'⟩)))
theorem law_firstError (hN : ∀ vX vM vO, INV vX vM vO → N vX vM vO) (hX : RX vX S L B) (hM : RM vM S L B) : wp_L_law_779 xs i N vX vM vO := by
  unfold wp_L_law_779
  exact sp_X6_firstError hX (fun v' hv' => sp_X7_firstError hM hX.2.2.2.2.2.2.2 (fun M' hM' _ => bq_t rfl (hN _ _ _ ⟨_, _, _, hv', hM'⟩)))
theorem law_load (hN : ∀ vX vM vO, INV vX vM vO → N vX vM vO) (hX : RX vX S L B) (hM : RM vM S L B) : wp_L_law_792 xs i N vX vM vO := by
  have h33 := hX.2.2.2.2.2.2.2
  unfold wp_L_law_792 wp_L_load
  refine sp_X6_load hX (fun e1 e2 e3 v' hv' f hf o ho => ?_) (fun e => Or.inl ⟨rfl, ?_⟩) (fun e1 e2 e3 => Or.inr ⟨rfl, ?_⟩)
  · subst hf ho
    refine sp_X7_load hM h33 (fun _ _ _ M' hM' ht => ?_) (fun e => absurd ⟨e1, e2⟩ e) (fun _ _ e => absurd e3 e)
    exact law_0 ht (hN _ _ _ ⟨_, _, _, hv', hM'⟩)
  · refine sp_X7_load hM h33 (fun e1 e2 => absurd ⟨e1, e2⟩ e) (fun _ M' hM' ht => ?_) (fun e1 e2 => absurd ⟨e1, e2⟩ e)
    exact law_1 ht (hN _ _ _ ⟨_, _, _, hX, hM'⟩)
  · refine sp_X7_load hM h33 (fun _ _ z => absurd z e3) (fun e => absurd ⟨e1, e2⟩ e) (fun _ _ _ M' hM' ht => ?_)
    exact law_2 ht (hN _ _ _ ⟨_, _, _, hX, hM'⟩)
theorem law_undo (hN : ∀ vX vM vO, INV vX vM vO → N vX vM vO) (hX : RX vX S L B) (hM : RM vM S L B) : wp_L_law_836 xs i N vX vM vO := by
  unfold wp_L_law_836 wp_L_undo
  refine sp_X6_undo hX (fun e => ⟨rfl, ?_⟩) (fun L0 T e v' hv' f hf o ho => ?_)
  · refine sp_X7_undo hM (fun _ M' hM' ht => ?_) (fun L0 T e2 => absurd (e.symm.trans e2) (by simp))
    exact law_1 ht (hN _ _ _ ⟨_, _, _, hX, hM'⟩)
  · subst hf ho
    refine sp_X7_undo hM (fun e2 => absurd (e2.symm.trans e) (by simp)) (fun L1 T1 e2 M' hM' ht => ?_)
    obtain ⟨rfl, e4⟩ := List.append_inj' (e.symm.trans e2) rfl
    obtain rfl : T = T1 := by
      have := congrArg (fun l => l.head?) e4
      exact Option.some.inj this
    exact law_0 ht (hN _ _ _ ⟨_, _, _, hv', hM'⟩)
theorem law_cell (hN : ∀ vX vM vO, INV vX vM vO → N vX vM vO) (hX : RX vX S L B) (hM : RM vM S L B) : wp_L_law_880 xs i N vX vM vO := by
  have hn := hM.2.1.n12
  unfold wp_L_law_880 wp_L_cell
  refine sp_X6_cell hX (fun k w hk hw ea eb v' hv' f hf o ho => ?_) (fun e => Or.inl ⟨rfl, ?_⟩) (fun k hk ea e => Or.inr ⟨rfl, ?_⟩)
  · subst hf ho
    refine sp_X7_cell hM (fun k' w' hk' hw' ea' eb' M' hM' ht => ?_) (fun e => absurd ⟨k, hk, ea⟩ e) (fun k' hk' ea' e _ _ _ => absurd (rng_of (lo := 0) (hi := 3) eb (Nat.zero_le _) (by omega) (by omega)) e)
    rw [ea] at ea'
    rw [eb] at eb'
    obtain rfl : k = k' := (nI_eq (by omega) (by omega)).mp ea'
    obtain rfl : w = w' := (nI_eq (by omega) (by omega)).mp eb'
    exact law_0 ht (hN _ _ _ ⟨_, _, _, hv', hM'⟩)
  · refine sp_X7_cell hM (fun k w hk hw ea eb _ _ _ => absurd ⟨k, hk, ea⟩ e) (fun _ M' hM' ht => ?_) (fun k hk ea _ _ _ _ => absurd ⟨k, hk, ea⟩ e)
    exact law_1 ht (hN _ _ _ ⟨_, _, _, hX, hM'⟩)
  · refine sp_X7_cell hM (fun k' w' hk' hw' ea' eb' _ _ _ => absurd (rng_of (lo := 0) (hi := 3) eb' (Nat.zero_le _) (by omega) (by omega)) e) (fun z => absurd ⟨k, hk, ea⟩ z) (fun _ _ _ _ M' hM' ht => ?_)
    exact law_2 ht (hN _ _ _ ⟨_, _, _, hX, hM'⟩)
theorem law_color1 (hN : ∀ vX vM vO, INV vX vM vO → N vX vM vO) (c : Bool) (hX : RX vX S L B) (hM : RM vM S L B) (e3 : (xs (i + 3) = 0 ∧ c = false) ∨ (¬ xs (i + 3) = 0 ∧ c = true)) : wp_L_law_975 xs i N vX vM vO (xs (i + 1)) (xs (i + 2)) (nI c.toNat) := by
  have hn := hM.2.1.n12
  have sel : ∀ {vX' : XV} {vO' : OV} {r : Int32}, wp_L_law_1008 xs i N vX' vM vO' r (xs (i + 1)) (xs (i + 2)) (nI c.toNat) → (xs (i + 3) = 0 → wp_L_law_1008 xs i N vX' vM vO' r (xs (i + 1)) (xs (i + 2)) 0) ∧ (¬ xs (i + 3) = 0 → wp_L_law_1008 xs i N vX' vM vO' r (xs (i + 1)) (xs (i + 2)) 1) := by
    intro vX' vO' r h
    rcases e3 with ⟨z, rfl⟩ | ⟨z, rfl⟩
    · exact bq_t z h
    · exact bq_f z h
  unfold wp_L_law_975 wp_L_color
  refine sp_X6_color hX c (fun k s hk hs ea eb v' hv' f hf o ho => sel ?_) (fun e => ⟨rfl, sel ?_⟩)
  · subst hf ho
    unfold wp_L_law_1008
    refine sp_X7_color hM c (fun k' s' hk' hs' ea' eb' M' hM' ht => ?_) (fun e => absurd ⟨⟨k, hk, ea⟩, rng_of (lo := 0) (hi := 3) eb (Nat.zero_le _) (by omega) (by omega)⟩ e)
    rw [ea] at ea'
    rw [eb] at eb'
    obtain rfl : k = k' := (nI_eq (by omega) (by omega)).mp ea'
    obtain rfl : s = s' := (nI_eq (by omega) (by omega)).mp eb'
    exact law_0 ht (hN _ _ _ ⟨_, _, _, hv', hM'⟩)
  · unfold wp_L_law_1008
    refine sp_X7_color hM c (fun k s hk hs ea eb _ _ _ => absurd ⟨⟨k, hk, ea⟩, rng_of (lo := 0) (hi := 3) eb (Nat.zero_le _) (by omega) (by omega)⟩ e) (fun _ M' hM' ht => ?_)
    exact law_1 ht (hN _ _ _ ⟨_, _, _, hX, hM'⟩)
theorem law_color (hN : ∀ vX vM vO, INV vX vM vO → N vX vM vO) (hX : RX vX S L B) (hM : RM vM S L B) : wp_L_law_948 xs i N vX vM vO := by
  unfold wp_L_law_948
  exact ⟨fun z => law_color1 hN false hX hM (Or.inl ⟨z, rfl⟩), fun z => law_color1 hN true hX hM (Or.inr ⟨z, rfl⟩)⟩
theorem law_tile (hN : ∀ vX vM vO, INV vX vM vO → N vX vM vO) (hX : RX vX S L B) (hM : RM vM S L B) : wp_L_law_1044 xs i N vX vM vO := by
  have htt := hM.2.1.2.2.2.1
  unfold wp_L_law_1044 wp_L_tile
  refine sp_X6_tile hX (fun k w hk hw ea eb v' hv' f hf o ho => ?_) (fun e => Or.inl ⟨rfl, ?_⟩) (fun k hk ea e => Or.inr ⟨rfl, ?_⟩)
  · subst hf ho
    refine sp_X7_tile hM (fun k' w' hk' hw' ea' eb' M' hM' ht => ?_) (fun e => absurd ⟨k, hk, ea⟩ e) (fun k' hk' ea' e _ _ _ => absurd (rng_of (lo := 0) (hi := 3) eb (Nat.zero_le _) (by omega) (by omega)) e)
    rw [ea] at ea'
    rw [eb] at eb'
    obtain rfl : k = k' := (nI_eq (by omega) (by omega)).mp ea'
    obtain rfl : w = w' := (nI_eq (by omega) (by omega)).mp eb'
    exact law_0 ht (hN _ _ _ ⟨_, _, _, hv', hM'⟩)
  · refine sp_X7_tile hM (fun k w hk hw ea eb _ _ _ => absurd ⟨k, hk, ea⟩ e) (fun _ M' hM' ht => ?_) (fun k hk ea _ _ _ _ => absurd ⟨k, hk, ea⟩ e)
    exact law_1 ht (hN _ _ _ ⟨_, _, _, hX, hM'⟩)
  · refine sp_X7_tile hM (fun k' w' hk' hw' ea' eb' _ _ _ => absurd (rng_of (lo := 0) (hi := 3) eb' (Nat.zero_le _) (by omega) (by omega)) e) (fun z => absurd ⟨k, hk, ea⟩ z) (fun _ _ _ _ M' hM' ht => ?_)
    exact law_2 ht (hN _ _ _ ⟨_, _, _, hX, hM'⟩)
theorem law_count (hN : ∀ vX vM vO, INV vX vM vO → N vX vM vO) (hX : RX vX S L B) (hM : RM vM S L B) : wp_L_law_1112 xs i N vX vM vO := by
  unfold wp_L_law_1112 wp_L_count
  refine sp_X6_count hX (fun w hw ea v' hv' f hf o ho => ?_) (fun e => ⟨rfl, ?_⟩)
  · subst hf ho
    refine sp_X7_count hM (fun w' hw' ea' M' hM' ht => ?_) (fun e => absurd (rng_of (lo := 0) (hi := 9) ea (Nat.zero_le _) (by omega) (by omega)) e)
    rw [ea] at ea'
    obtain rfl : w = w' := (nI_eq (by omega) (by omega)).mp ea'
    exact law_0 ht (hN _ _ _ ⟨_, _, _, hv', hM'⟩)
  · refine sp_X7_count hM (fun w hw ea _ _ _ => absurd (rng_of (lo := 0) (hi := 9) ea (Nat.zero_le _) (by omega) (by omega)) e) (fun _ M' hM' ht => ?_)
    exact law_1 ht (hN _ _ _ ⟨_, _, _, hX, hM'⟩)
theorem law_layings (hN : ∀ vX vM vO, INV vX vM vO → N vX vM vO) (hX : RX vX S L B) (hM : RM vM S L B) : wp_L_law_1168 xs i N vX vM vO := by
  unfold wp_L_law_1168 wp_L_layings
  refine sp_X6_layings hX (fun m w m1 m2 hw ea eb v' hv' f hf o ho => ?_) (fun e => ⟨rfl, ?_⟩)
  · subst hf ho
    refine sp_X7_layings hM (fun m' w' m1' m2' hw' ea' eb' M' hM' ht => ?_) (fun e => absurd ⟨rng_of (lo := 1) (hi := 50) ea m1 m2 (by omega), rng_of (lo := 0) (hi := 2) eb (Nat.zero_le _) (by omega) (by omega)⟩ e)
    rw [ea] at ea'
    rw [eb] at eb'
    obtain rfl : m = m' := (nI_eq (by omega) (by omega)).mp ea'
    obtain rfl : w = w' := (nI_eq (by omega) (by omega)).mp eb'
    exact law_0 ht (hN _ _ _ ⟨_, _, _, hv', hM'⟩)
  · refine sp_X7_layings hM (fun m w m1 m2 hw ea eb _ _ _ => absurd ⟨rng_of (lo := 1) (hi := 50) ea m1 m2 (by omega), rng_of (lo := 0) (hi := 2) eb (Nat.zero_le _) (by omega) (by omega)⟩ e) (fun _ M' hM' ht => ?_)
    exact law_1 ht (hN _ _ _ ⟨_, _, _, hX, hM'⟩)
theorem law_hint (hN : ∀ vX vM vO, INV vX vM vO → N vX vM vO) (hX : RX vX S L B) (hM : RM vM S L B) : wp_L_law_1236 xs i N vX vM vO := by
  unfold wp_L_law_1236
  exact sp_X6_hint hX (fun v' hv' => sp_X7_hint hM (fun M' hM' _ => bq_t rfl (hN _ _ _ ⟨_, _, _, hv', hM'⟩)))
theorem law_starts (hN : ∀ vX vM vO, INV vX vM vO → N vX vM vO) (hX : RX vX S L B) (hM : RM vM S L B) : wp_L_law_1249 xs i N vX vM vO := by
  unfold wp_L_law_1249
  exact sp_X6_starts hX (fun v' hv' => sp_X7_starts hM (fun M' hM' _ => bq_t rfl (hN _ _ _ ⟨_, _, _, hv', hM'⟩)))
theorem law_why (hN : ∀ vX vM vO, INV vX vM vO → N vX vM vO) (hX : RX vX S L B) (hM : RM vM S L B) : wp_L_law_1262 xs i N vX vM vO := by
  have hn := hM.2.1.n12
  have htt := hM.2.1.2.2.2.1
  unfold wp_L_law_1262 wp_L_why
  refine sp_X6_why hX (fun k p hk hp ea eb v' hv' f hf o ho => ?_) (fun e => ⟨rfl, ?_⟩)
  · subst hf ho
    refine sp_X7_why hM (fun k' p' hk' hp' ea' eb' M' hM' ht => ?_) (fun e => absurd ⟨⟨k, hk, ea⟩, ⟨p, hp, eb⟩⟩ e)
    rw [ea] at ea'
    rw [eb] at eb'
    obtain rfl : k = k' := (nI_eq (by omega) (by omega)).mp ea'
    obtain rfl : p = p' := (nI_eq (by omega) (by omega)).mp eb'
    exact law_0 ht (hN _ _ _ ⟨_, _, _, hv', hM'⟩)
  · refine sp_X7_why hM (fun k p hk hp ea eb _ _ _ => absurd ⟨⟨k, hk, ea⟩, ⟨p, hp, eb⟩⟩ e) (fun _ M' hM' ht => ?_)
    exact law_1 ht (hN _ _ _ ⟨_, _, _, hX, hM'⟩)
theorem law_fitting (hN : ∀ vX vM vO, INV vX vM vO → N vX vM vO) (hX : RX vX S L B) (hM : RM vM S L B) : wp_L_law_1330 xs i N vX vM vO := by
  have hgo := fitV_go hX.2.1
  unfold goF at hgo
  rw [Bool.and_eq_true] at hgo
  unfold wp_L_law_1330
  exact sp_X6_fitting hX (fun v' hv' => sp_X7_fitting hM (fun M' hM' _ => bq_t (of_decide_eq_true hgo.1) (hN _ _ _ ⟨_, _, _, hv', hM'⟩)))
theorem law_digest (hN : ∀ vX vM vO, INV vX vM vO → N vX vM vO) (hX : RX vX S L B) (hM : RM vM S L B) : wp_L_law_1371 xs i N vX vM vO := by
  unfold wp_L_law_1371
  exact sp_X6_digest hX (fun v' hv' => sp_X7_digest hM (fun M' hM' _ => bq_t (cmp_self _) (hN _ _ _ ⟨_, _, _, hv', hM'⟩)))
theorem law_step (hN : ∀ vX vM vO, INV vX vM vO → N vX vM vO) (hX : RX vX S L B) (hM : RM vM S L B) : wp_L_law_32 xs i N vX vM vO := by
  unfold wp_L_law_32
  intro sw _
  exact ⟨fun _ => law_begin hN hX hM, fun _ => law_addTile hN hX hM, fun _ => law_dropTile hN hX hM, fun _ => law_setRule hN hX hM, fun _ => law_cut hN hX hM, fun _ => law_lay hN hX hM, fun _ => law_take hN hX hM, fun _ => law_fix hN hX hM, fun _ => law_clear hN hX hM, fun _ => law_turnOver hN hX hM, fun _ => law_solve hN hX hM, fun _ => law_append hN hX hM, fun _ => law_clearBuffer hN hX hM, fun _ => law_firstError hN hX hM, fun _ => law_load hN hX hM, fun _ => law_undo hN hX hM, fun _ => law_cell hN hX hM, fun _ => law_color hN hX hM, fun _ => law_tile hN hX hM, fun _ => law_count hN hX hM, fun _ => law_layings hN hX hM, fun _ => law_hint hN hX hM, fun _ => law_starts hN hX hM, fun _ => law_why hN hX hM, fun _ => law_fitting hN hX hM, fun _ => law_digest hN hX hM, fun _ _ _ _ _ _ _ _ _ _ _ _ _ _ _ _ _ _ _ _ _ _ _ _ _ _ => hN _ _ _ ⟨S, L, B, hX, hM⟩⟩
end LW
