/-! the start: by the kernel -/
def hS0 : Option Zh := (fX10_init 0 (znw zh0 10 0 12)).bind fun h1 => (fX12_init (zN h1) (znw h1 12 0 46)).bind fun h2 => some (znw h2 102 1 1)
def chA (h : Zh) : Bool := (List.range 101).all (fun i => decide (zK h i = kdT.getD i 0) && decide (zL h i = lnT.getD i 0)) && rfT.all (fun q => decide (zR h q.1 q.2.1 = some q.2.2))
def chI : List (Nat × Nat × Int32) := [(0, 1, 0), (0, 9, 0), (0, 7, 0), (0, 8, 0), (16, 2, 0), (16, 3, 0), (54, 0, 0), (56, 0, 1), (58, 0, 2), (60, 0, 3), (42, 14, 0), (38, 3, 0), (13, 0, 0), (13, 3, 0), (14, 0, 0), (14, 1, 0), (14, 2, 0), (14, 3, 0), (14, 4, 0), (14, 5, 0), (14, 6, 0), (14, 7, 0), (14, 8, 0), (14, 9, 0), (14, 10, 0), (76, 6, 0), (76, 13, 0), (76, 1, 0), (76, 2, -1)]
def chB (h : Zh) : Bool := chI.all (fun q => decide (zI h q.1 q.2.1 = q.2.2)) && decide (zR h 0 3 = some 13) && decide (zR h 0 4 = some 19) && decide (zR h 42 8 = some 48) && decide (zR h 42 9 = some 49) && decide (zR h 76 3 = none) && decide (zN h = 101) && decide (zL h 48 = 0) && decide (zL h 49 = 0) && decide (zS h ≤ 130000)
theorem hS0_a : hS0.map chA = some true := by decide +kernel
theorem hS0_b : hS0.map chB = some true := by decide +kernel
theorem hS0_n : ((fX10_init 0 (znw zh0 10 0 12)).map zN = some 76) ∧ (((fX10_init 0 (znw zh0 10 0 12)).bind fun h1 => fX12_init (zN h1) (znw h1 12 0 46)).map zN = some 100) := by decide +kernel
theorem ptb : rmL LA 0 + rmL LB 0 ≤ 310000 := by decide +kernel
