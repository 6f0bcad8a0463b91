/-! digest, on both sides -/
def hN (f : Nat → Int32) : Nat → Int64 → Int64
  | 0, h => h
  | n + 1, h => (31 * hN f n h) + Int32.toInt64 (f n)
