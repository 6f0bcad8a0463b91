def ruS (S : AS) (x : Nat) : AS := (S.r, S.c, x, S.t, S.F, S.P, S.X)
def tS (S : AS) (x : Nat) : AS := (S.r, S.c, S.ru, x, S.F, S.P, S.X)
def addF (S : AS) (f o : Nat) : AS := (S.r, S.c, S.ru, S.t + 1, fun i => if i = 2 * S.t then f else if i = 2 * S.t + 1 then o else S.F i, S.P, S.X)
