/-! the reference: starts -/
def bitN (m k : Nat) : Nat := m / 2 ^ k % 2
def maskS (S : AS) (m : Nat) : AS := (S.r, S.c, S.ru, S.t, S.F, fun k => if bitN m k = 1 then S.P k else none, S.X)
def bitsA (m : Nat) : Nat := sm (bitN m) 12
theorem bit_row {m k : Nat} (hm : m < 2 ^ 31) (hk : k < 32) : (jshr (nI m) (nI k)) &&& 1 = nI (bitN m k) := by
  rw [nn_shr hk hm, nn_lit 1, nn_and, Nat.and_one_is_mod]
  rfl
def mkS (S : AS) (m k : Nat) : AS := (S.r, S.c, S.ru, S.t, S.F, fun j => if j < k ∧ ¬ bitN m j = 1 then none else S.P j, S.X)
theorem mkS_step (S : AS) (m k : Nat) : (mkS S m k).put k (if bitN m k = 1 then S.P k else none) = mkS S m (k + 1) := AS.ext' rfl rfl rfl rfl rfl (fun j => by
  by_cases e : j = k
  · subst e
    rw [put_at]
    show _ = (if j < j + 1 ∧ ¬ bitN m j = 1 then none else S.P j)
    by_cases hb : bitN m j = 1
    · rw [if_pos hb, if_neg (by omega)]
    · rw [if_neg hb, if_pos ⟨by omega, hb⟩]
  · rw [put_ne _ _ e]
    show (if j < k ∧ ¬ bitN m j = 1 then none else S.P j) = (if j < k + 1 ∧ ¬ bitN m j = 1 then none else S.P j)
    by_cases hb : j < k ∧ ¬ bitN m j = 1
    · rw [if_pos hb, if_pos ⟨by omega, hb.2⟩]
    · rw [if_neg hb, if_neg (fun z => hb ⟨by omega, z.2⟩)]) rfl
theorem out_none {S : AS} (hI : Inv S) {j : Nat} (h : ¬ j < S.n) : S.P j = none := by
  cases e : S.P j with
  | none => rfl
  | some p => exact absurd (hI.2.2.2.2.2.1 j p e).1 h
theorem mkS_n {S : AS} (hI : Inv S) (m : Nat) : mkS S m S.n = maskS S m := AS.ext' rfl rfl rfl rfl rfl (fun j => by
  show (if j < S.n ∧ ¬ bitN m j = 1 then none else S.P j) = (if bitN m j = 1 then S.P j else none)
  by_cases hj : j < S.n
  · by_cases hb : bitN m j = 1
    · rw [if_pos hb, if_neg (fun z => z.2 hb)]
    · rw [if_neg hb, if_pos ⟨hj, hb⟩]
  · rw [out_none hI hj, ite_self, ite_self]) rfl
