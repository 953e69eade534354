/-! the reference: who is down is laid -/
def outR (n : Nat) (R : SL) : Int32 := if n = 0 then 0 else R (n - 1) 13
