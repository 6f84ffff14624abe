/-! the start: both objects made -/
def zh0 : Zh := ((0, 0), fun _ => 999, fun _ => 0, fun _ _ => 0, fun _ _ => 0, fun _ _ => none)
def hX1 : Option Zh := fX10_init 0 (znw zh0 10 0 12)
theorem hX1_some : hX1.isSome = true := by decide +kernel
theorem hX1_n : hX1.map zN = some 76 := by decide +kernel
