/-! PURE WORDS for both sides -/
def dnz (a b : Int32) (e : Int64) : Int64 := a.toInt64 + b.toInt64 * e / 1000
def ndz (b : Int32) (n : Int64) : Int64 := ((1 : Int64) <<< (b.toInt64 &&& 63) - 1) * n
def capz (n : Int64) : Int64 := if 1000000000000 < n then 1000000000000 else n
def mgz (e nd : Int64) : Int64 := if nd < 1 then -1 else 100 * e / nd
def sumI (f : Nat → Int32) : Nat → Int32
  | 0 => 0
  | n + 1 => sumI f n + f n
def sumL (f : Nat → Int64) : Nat → Int64
  | 0 => 0
  | n + 1 => sumL f n + f n
/-- the disturbed noise of tone t of the pair P beside the pair P2 -/
def dnP (h : hS) (P P2 t : Nat) : Int64 := dnz (h.1 (P + 1) t) (h.1 (P + 2) t) (h.2.1 (P2 + 6) t)
def ndP (h : hS) (P P2 t : Nat) : Int64 := ndz (h.1 (P + 4) t) (dnP h P P2 t)
def mgP (h : hS) (P P2 t : Nat) : Int64 := mgz (h.2.1 (P + 6) t) (ndP h P P2 t)
