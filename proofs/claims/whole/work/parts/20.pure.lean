/-! THE NUMBERS, by functions -/
/-- squares of d numbers from k on -/
def sqN (f : Nat → Int64) (k : Nat) : Nat → Int64
  | 0 => 0
  | d + 1 => sqN f k d + f (k + d) * f (k + d)
def sqAt (f : Nat → Int64) (q : Nat) : Int64 := sqN f (q * 4) 4
def sqA (f : Nat → Int64) : Nat → Int64
  | 0 => 0
  | q + 1 => sqA f q + sqAt f q
def sqs (f : Nat → Int64) : Int64 := sqA f 12
