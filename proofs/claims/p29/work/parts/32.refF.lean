def xS (S : AS) (k : Nat) (b : Bool) : AS := (S.r, S.c, S.ru, S.t, S.F, S.P, fun j => if j = k then b else S.X j)
