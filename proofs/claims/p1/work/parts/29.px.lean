/-! THE CLASS'S REFERENCES: which of the two programs is the one in use -/
def pX (a b u w : Option Nat) : Nat → Nat → Option Nat := fun c f => match c, f with | 0, 13 => a | 0, 14 => b | 27, 2 => u | 116, 5 => w | c, f => pC c f
