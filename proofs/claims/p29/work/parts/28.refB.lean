def pushS (L : List AS) (S : AS) : List AS := (if L.length = 8 then L.drop 1 else L) ++ [S]
