/-! the reference: cell, color, why, layings -/
def cellV (S : AS) (k w : Nat) : Int32 := if w = 0 then enc (S.P k) else if w = 1 then nI (S.X k).toNat else if w = 2 then (if (S.P k).isNone = true then nI (pm S k) else 0) else if (S.P k).isNone = true then enc (pf S k 0) else -1
def colV (S : AS) (k s : Nat) (b : Bool) : Int32 := match S.P k with
  | none => -1
  | some p => nI (col S.F p s b)
def srV (S : AS) (most w : Nat) : Nat := if w = 0 then (srch S most).1 else if w = 1 then (srch S most).2.1 else (srch S most).2.2.1.toNat
