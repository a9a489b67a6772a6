/-- the line behind j octets -/
def lnc (f : Nat → Int32) : Nat → Int32
  | 0 => 1
  | j + 1 => if f j = 10 then lnc f j + 1 else lnc f j