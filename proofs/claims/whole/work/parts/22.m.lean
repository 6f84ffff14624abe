/-! FifthCardModel laysCodes -/
def bX12_laysCodes_29 (g : Zh) (r0 : Nat) (x1 : Int32) (x2 : Int32) (x3 : Int32) (x4 : Int32) (h : Zh) : Option (Nat × Int32 × Int32 × Int32 × Zh) :=
  (zR h r0 3).bind fun r_5 => if zK g r_5 = 11 then if (zI h r_5 4) ≤ x4 then some (1, (x2, (x3, (x4, h)))) else if x3 = 0 then some (1, (x2, (x3, (x4, h)))) else (zR h r0 3).bind fun r_7 => if zK g r_7 = 11 then zlet ((x1 >>> ((((3 : Int32)) * (((zI h r_7 4) - ((1 : Int32))) - x4)) &&& 31)) &&& ((7 : Int32))) fun y9 => (zR h r0 3).bind fun r_10 => if zK g r_10 = 11 then if (zI h r_10 2) ≤ y9 then zlet (x2 ||| (((1 : Int32)) <<< (y9 &&& 31))) fun y12 => zlet (x4 + (1 : Int32)) fun y13 => some (0, (y12, ((0 : Int32), (y13, h)))) else if ((x2 >>> (y9 &&& 31)) &&& ((1 : Int32))) = 0 then zc2 (fX12_isOneOrder r0 h) fun v17 h16 => if v17 = 0 then zlet (x2 ||| (((1 : Int32)) <<< (y9 &&& 31))) fun y18 => zlet (x4 + (1 : Int32)) fun y19 => some (0, (y18, ((1 : Int32), (y19, h16)))) else if (((1 : Int32)) <<< (y9 &&& 31)) ≤ x2 then zlet (x2 ||| (((1 : Int32)) <<< (y9 &&& 31))) fun y20 => zlet (x4 + (1 : Int32)) fun y21 => some (0, (y20, ((0 : Int32), (y21, h16)))) else zlet (x2 ||| (((1 : Int32)) <<< (y9 &&& 31))) fun y22 => zlet (x4 + (1 : Int32)) fun y23 => some (0, (y22, ((1 : Int32), (y23, h16)))) else zlet (x2 ||| (((1 : Int32)) <<< (y9 &&& 31))) fun y14 => zlet (x4 + (1 : Int32)) fun y15 => some (0, (y14, ((0 : Int32), (y15, h)))) else none else none else none
def kX12_laysCodes_29 (g : Zh) (r0 : Nat) (x1 : Int32) (e : Nat) (x2 : Int32) (x3 : Int32) (x4 : Int32) (h : Zh) : Option (Nat × Int32 × Zh) :=
  if x3 = 0 then zlet (x1 + (1 : Int32)) fun y30 => some (0, (y30, h)) else (zR h r0 23).bind fun r_24 => if zK g r_24 = 100 then if zin (zI h r0 24) (zL g r_24) then zlet (zsI h r_24 (zI h r0 24).toNatClampNeg x1) fun h27 => zlet (zsI h27 r0 24 ((zI h27 r0 24) + ((1 : Int32)))) fun h28 => zlet (x1 + (1 : Int32)) fun y29 => some (0, (y29, h28)) else none else none
def bX12_laysCodes_7 (g : Zh) (r0 : Nat) (x1 : Int32) (h : Zh) : Option (Nat × Int32 × Zh) :=
  (zR h r0 3).bind fun r_3 => if zK g r_3 = 11 then if (((1 : Int32)) <<< ((((3 : Int32)) * (zI h r_3 4)) &&& 31)) ≤ x1 then some (1, (x1, h)) else (lp (fun q : Int32 × Int32 × Int32 × Zh => bX12_laysCodes_29 g r0 x1 q.1 q.2.1 q.2.2.1 q.2.2.2) zB ((0 : Int32), ((1 : Int32), ((0 : Int32), h)))).bind fun q => kX12_laysCodes_29 g r0 x1 q.1 q.2.1 q.2.2.1 q.2.2.2.1 q.2.2.2.2 else none
def kX12_laysCodes_7 (g : Zh)  (e : Nat) (x1 : Int32) (h : Zh) : Option Zh :=
  some h
def fX12_laysCodes (r0 : Nat) (h : Zh) : Option Zh := zlet h fun g =>
  if zK g r0 = 12 then zlet (zsI h r0 24 ((0 : Int32))) fun h2 => (lp (fun q : Int32 × Zh => bX12_laysCodes_7 g r0 q.1 q.2) zB ((0 : Int32), h2)).bind fun q => kX12_laysCodes_7 g q.1 q.2.1 q.2.2 else none
/-! FifthCardModel puts -/
def bX12_puts_32 (g : Zh) (r0 : Nat) (x2 : Int32) (x3 : Int32) (x4 : Int32) (h : Zh) : Option (Nat × Int32 × Zh) :=
  if x2 < x4 then some (1, (x4, h)) else (zR h r0 21).bind fun r_10 => (zR h r0 21).bind fun r_11 => if zK g r_11 = 100 then if zin (x3 - x4) (zL g r_11) then if zK g r_10 = 100 then if zin ((x3 - x4) + x2) (zL g r_10) then zlet (zsI h r_10 ((x3 - x4) + x2).toNatClampNeg (zI h r_11 (x3 - x4).toNatClampNeg)) fun h16 => zlet (x4 + (1 : Int32)) fun y17 => some (0, (y17, h16)) else none else none else none else none
def kX12_puts_32 (g : Zh) (r0 : Nat) (x1 : Int32) (x2 : Int32) (x3 : Int32) (e : Nat) (x4 : Int32) (h : Zh) : Option (Nat × Int32 × Zh) :=
  zlet (x3 - x2) fun y18 => some (0, (y18, h))
def bX12_puts_13 (g : Zh) (r0 : Nat) (x1 : Int32) (x2 : Int32) (x3 : Int32) (h : Zh) : Option (Nat × Int32 × Zh) :=
  if x3 ≤ 0 then some (1, (x3, h)) else (zR h r0 21).bind fun r_7 => if zK g r_7 = 100 then if zin (x3 - ((1 : Int32))) (zL g r_7) then if (zI h r_7 (x3 - ((1 : Int32))).toNatClampNeg) ≤ x1 then some (1, (x3, h)) else (lp (fun q : Int32 × Zh => bX12_puts_32 g r0 x2 x3 q.1 q.2) zB ((1 : Int32), h)).bind fun q => kX12_puts_32 g r0 x1 x2 x3 q.1 q.2.1 q.2.2 else none else none
def bX12_puts_74 (g : Zh) (r0 : Nat) (x1 : Int32) (x2 : Int32) (x3 : Int32) (x4 : Int32) (h : Zh) : Option (Nat × Int32 × Zh) :=
  if x2 ≤ x4 then some (1, (x4, h)) else (zR h r0 21).bind fun r_19 => if zK g r_19 = 100 then if zin (x3 + x4) (zL g r_19) then zlet (zsI h r_19 (x3 + x4).toNatClampNeg (x1 + x4)) fun h22 => zlet (x4 + (1 : Int32)) fun y23 => some (0, (y23, h22)) else none else none
def kX12_puts_74 (g : Zh) (r0 : Nat) (x2 : Int32) (e : Nat) (x4 : Int32) (h : Zh) : Option Zh :=
  zlet (zsI h r0 22 ((zI h r0 22) + x2)) fun h24 => some h24
def kX12_puts_13 (g : Zh) (r0 : Nat) (x1 : Int32) (x2 : Int32) (e : Nat) (x3 : Int32) (h : Zh) : Option Zh :=
  (lp (fun q : Int32 × Zh => bX12_puts_74 g r0 x1 x2 x3 q.1 q.2) zB ((0 : Int32), h)).bind fun q => kX12_puts_74 g r0 x2 q.1 q.2.1 q.2.2
def fX12_puts (r0 : Nat) (x1 : Int32) (h : Zh) : Option Zh := zlet h fun g =>
  if zK g r0 = 12 then (zR h r0 3).bind fun r_2 => if zK g r_2 = 11 then zc2 (fX11_tilts r_2 h) fun v5 h4 => zlet (zI h4 r0 22) fun y6 => (lp (fun q : Int32 × Zh => bX12_puts_13 g r0 x1 v5 q.1 q.2) zB (y6, h4)).bind fun q => kX12_puts_13 g r0 x1 v5 q.1 q.2.1 q.2.2 else none else none
/-! FifthCardModel fitsOf -/
def bX12_fitsOf_17 (g : Zh) (r0 : Nat) (x1 : Int32) (x2 : Int32) (x3 : Int32) (h : Zh) : Option (Nat × Int32 × Zh) :=
  (zR h r0 3).bind fun r_3 => if zK g r_3 = 11 then if (zI h r_3 4) ≤ x3 then some (1, (x3, h)) else (zR h r0 19).bind fun r_5 => (zR h r0 23).bind fun r_6 => if zK g r_6 = 100 then if zin x2 (zL g r_6) then (zR h r0 3).bind fun r_9 => if zK g r_9 = 11 then zc2 (fX12_cardOf r0 x1 (((zI h r_6 x2.toNatClampNeg) >>> ((((3 : Int32)) * (((zI h r_9 4) - ((1 : Int32))) - x3)) &&& 31)) &&& ((7 : Int32))) h) fun v12 h11 => if zK g r_5 = 100 then if zin x3 (zL g r_5) then zlet (zsI h11 r_5 x3.toNatClampNeg v12) fun h15 => zlet (x3 + (1 : Int32)) fun y16 => some (0, (y16, h15)) else none else none else none else none else none else none
def kX12_fitsOf_17 (g : Zh) (r0 : Nat) (x1 : Int32) (x2 : Int32) (e : Nat) (x3 : Int32) (h : Zh) : Option (Nat × Int32 × Zh) :=
  (zR h r0 19).bind fun r_17 => zc2 (fX12_rowNumber r0 r_17 ((0 : Int32)) h) fun v19 h18 => (zR h18 r0 3).bind fun r_20 => if zK g r_20 = 11 then zc2 (fX11_tilts r_20 h18) fun v23 h22 => (fX12_puts r0 (v19 * v23) h22).bind fun h24 => zlet (x2 + (1 : Int32)) fun y25 => some (0, (y25, h24)) else none
def bX12_fitsOf_7 (g : Zh) (r0 : Nat) (x1 : Int32) (x2 : Int32) (h : Zh) : Option (Nat × Int32 × Zh) :=
  if (zI h r0 24) ≤ x2 then some (1, (x2, h)) else (lp (fun q : Int32 × Zh => bX12_fitsOf_17 g r0 x1 x2 q.1 q.2) zB ((0 : Int32), h)).bind fun q => kX12_fitsOf_17 g r0 x1 x2 q.1 q.2.1 q.2.2
def kX12_fitsOf_7 (g : Zh)  (e : Nat) (x2 : Int32) (h : Zh) : Option Zh :=
  some h
def fX12_fitsOf (r0 : Nat) (x1 : Int32) (h : Zh) : Option Zh := zlet h fun g =>
  if zK g r0 = 12 then zlet (zsI h r0 22 ((0 : Int32))) fun h2 => (lp (fun q : Int32 × Zh => bX12_fitsOf_7 g r0 x1 q.1 q.2) zB ((0 : Int32), h2)).bind fun q => kX12_fitsOf_7 g q.1 q.2.1 q.2.2 else none
/-! FifthCardModel sorts -/
def bX12_sorts_23 (g : Zh) (r0 : Nat) (x4 : Int32) (x3 : Int32) (h : Zh) : Option (Nat × Int32 × Zh) :=
  if x3 ≤ 0 then some (1, (x3, h)) else (zR h r0 20).bind fun r_6 => if zK g r_6 = 100 then if zin (x3 - ((1 : Int32))) (zL g r_6) then if (zI h r_6 (x3 - ((1 : Int32))).toNatClampNeg) ≤ x4 then some (1, (x3, h)) else (zR h r0 20).bind fun r_9 => (zR h r0 20).bind fun r_10 => if zK g r_10 = 100 then if zin (x3 - ((1 : Int32))) (zL g r_10) then if zK g r_9 = 100 then if zin x3 (zL g r_9) then zlet (zsI h r_9 x3.toNatClampNeg (zI h r_10 (x3 - ((1 : Int32))).toNatClampNeg)) fun h15 => zlet (x3 + (-1 : Int32)) fun y16 => some (0, (y16, h15)) else none else none else none else none else none else none
def kX12_sorts_23 (g : Zh) (r0 : Nat) (x1 : Int32) (x2 : Int32) (x4 : Int32) (e : Nat) (x3 : Int32) (h : Zh) : Option (Nat × Int32 × Zh) :=
  (zR h r0 20).bind fun r_17 => if zK g r_17 = 100 then if zin x3 (zL g r_17) then zlet (zsI h r_17 x3.toNatClampNeg x4) fun h20 => zlet (x2 + (1 : Int32)) fun y21 => some (0, (y21, h20)) else none else none
def bX12_sorts_2 (g : Zh) (r0 : Nat) (x1 : Int32) (x2 : Int32) (h : Zh) : Option (Nat × Int32 × Zh) :=
  if zK g r0 = 12 then (zR h r0 3).bind fun r_2 => if zK g r_2 = 11 then if (zI h r_2 2) ≤ x2 then some (1, (x2, h)) else zc2 (fX12_cardOf r0 x1 x2 h) fun v5 h4 => (lp (fun q : Int32 × Zh => bX12_sorts_23 g r0 v5 q.1 q.2) zB (x2, h4)).bind fun q => kX12_sorts_23 g r0 x1 x2 v5 q.1 q.2.1 q.2.2 else none else none
def kX12_sorts_2 (g : Zh)  (e : Nat) (x2 : Int32) (h : Zh) : Option Zh :=
  some h
def fX12_sorts (r0 : Nat) (x1 : Int32) (h : Zh) : Option Zh := zlet h fun g =>
  (lp (fun q : Int32 × Zh => bX12_sorts_2 g r0 x1 q.1 q.2) zB ((0 : Int32), h)).bind fun q => kX12_sorts_2 g q.1 q.2.1 q.2.2
/-! FifthCardModel keepsAt -/
def bX12_keepsAt_13 (g : Zh) (r0 : Nat) (x2 : Int32) (x3 : Int32) (x4 : Int32) (h : Zh) : Option (Nat × Int32 × Int32 × Zh) :=
  if x2 ≤ x4 then some (1, (x3, (x4, h))) else (zR h r0 20).bind fun r_5 => if zK g r_5 = 100 then if zin x4 (zL g r_5) then zlet (x3 + (zI h r_5 x4.toNatClampNeg)) fun y8 => zlet (x4 + (1 : Int32)) fun y9 => some (0, (y8, (y9, h))) else none else none
def kX12_keepsAt_13 (g : Zh) (r0 : Nat) (x1 : Int32) (x2 : Int32) (e : Nat) (x3 : Int32) (x4 : Int32) (h : Zh) : Option (Int32 × Zh) :=
  if x1 = 0 then some ((0 : Int32), h) else if x1 = ((1 : Int32)) then some (x2 - ((1 : Int32)), h) else if x1 = ((2 : Int32)) then (zR h r0 3).bind fun r_11 => if zK g r_11 = 11 then if ¬ ((2 : Int32)) = 0 then some ((x2 - (zI h r_11 3)) / ((2 : Int32)), h) else none else none else if ¬ x2 = 0 then some (zrem x3 x2, h) else none
def fX12_keepsAt (r0 : Nat) (x1 : Int32) (h : Zh) : Option (Int32 × Zh) := zlet h fun g =>
  if zK g r0 = 12 then (zR h r0 3).bind fun r_2 => if zK g r_2 = 11 then zlet (zI h r_2 2) fun y4 => (lp (fun q : Int32 × Int32 × Zh => bX12_keepsAt_13 g r0 y4 q.1 q.2.1 q.2.2) zB ((0 : Int32), ((0 : Int32), h))).bind fun q => kX12_keepsAt_13 g r0 x1 y4 q.1 q.2.1 q.2.2.1 q.2.2.2 else none else none
/-! FifthCardModel tells -/
def bX12_tells_66 (g : Zh) (r0 : Nat) (x2 : Int32) (x3 : Int32) (x4 : Int32) (x5 : Int32) (x6 : Int32) (x7 : Int32) (h : Zh) : Option (Nat × Int32 × Int32 × Zh) :=
  (zR h r0 3).bind fun r_9 => if zK g r_9 = 11 then if (zI h r_9 2) ≤ x7 then some (1, (x6, (x7, h))) else zc2 (fX12_cardOf r0 x3 x7 h) fun v12 h11 => if ¬ x5 = 0 then zlet (zrem ((x2 - v12) + x5) x5) fun y14 => if ((x4 >>> (v12 &&& 31)) &&& ((1 : Int32))) = 0 then if x6 ≤ y14 then zlet (x7 + (1 : Int32)) fun y16 => some (0, (x6, (y16, h11))) else zlet (x7 + (1 : Int32)) fun y17 => some (0, (y14, (y17, h11))) else zlet (x7 + (1 : Int32)) fun y15 => some (0, (x6, (y15, h11))) else none else none
def kX12_tells_66 (g : Zh)  (e : Nat) (x6 : Int32) (x7 : Int32) (h : Zh) : Option (Int32 × Zh) :=
  some (x6, h)
def bX12_tells_132 (g : Zh) (r0 : Nat) (x2 : Int32) (x3 : Int32) (x4 : Int32) (x6 : Int32) (x7 : Int32) (h : Zh) : Option (Nat × Int32 × Int32 × Zh) :=
  if x2 ≤ x7 then some (1, (x6, (x7, h))) else zc2 (fX12_has r0 x3 x7 h) fun v19 h18 => if v19 = 0 then zlet (x6 + ((1 : Int32))) fun y20 => zlet (x7 + (1 : Int32)) fun y21 => some (0, (y20, (y21, h18))) else if ((x4 >>> (x7 &&& 31)) &&& ((1 : Int32))) = ((1 : Int32)) then zlet (x6 + ((1 : Int32))) fun y24 => zlet (x7 + (1 : Int32)) fun y25 => some (0, (y24, (y25, h18))) else zlet (x6 + ((0 : Int32))) fun y22 => zlet (x7 + (1 : Int32)) fun y23 => some (0, (y22, (y23, h18)))
def kX12_tells_132 (g : Zh) (r0 : Nat) (e : Nat) (x6 : Int32) (x7 : Int32) (h : Zh) : Option (Int32 × Zh) :=
  (zR h r0 3).bind fun r_26 => if zK g r_26 = 11 then if ¬ (zI h r_26 2) = 0 then some (x6 / (zI h r_26 2), h) else none else none
def bX12_tells_189 (g : Zh) (x4 : Int32) (x5 : Int32) (x6 : Int32) (x7 : Int32) (h : Zh) : Option (Nat × Int32 × Int32 × Zh) :=
  if x5 ≤ x7 then some (1, (x6, (x7, h))) else if ((x4 >>> (x7 &&& 31)) &&& ((1 : Int32))) = ((1 : Int32)) then zlet (x6 + x7) fun y31 => zlet (x7 + (1 : Int32)) fun y32 => some (0, (y31, (y32, h))) else zlet (x6 + ((0 : Int32))) fun y29 => zlet (x7 + (1 : Int32)) fun y30 => some (0, (y29, (y30, h)))
def kX12_tells_189 (g : Zh) (x5 : Int32) (e : Nat) (x6 : Int32) (x7 : Int32) (h : Zh) : Option (Int32 × Zh) :=
  if ¬ x5 = 0 then some (zrem x6 x5, h) else none
def fX12_tells (r0 : Nat) (x1 : Int32) (x2 : Int32) (x3 : Int32) (x4 : Int32) (h : Zh) : Option (Int32 × Zh) := zlet h fun g =>
  if zK g r0 = 12 then (zR h r0 3).bind fun r_2 => if zK g r_2 = 11 then zlet (zI h r_2 0) fun y4 => if x1 = 0 then some (x2, h) else if x1 = 1 then (zR h r0 3).bind fun r_5 => if zK g r_5 = 11 then if ¬ (zI h r_5 1) = 0 then if ¬ (y4 / (zI h r_5 1)) = 0 then some (zrem x2 (y4 / (zI h r_5 1)), h) else none else none else none else if x1 = 2 then (lp (fun q : Int32 × Int32 × Zh => bX12_tells_66 g r0 x2 x3 x4 y4 q.1 q.2.1 q.2.2) zB (y4, ((0 : Int32), h))).bind fun q => kX12_tells_66 g q.1 q.2.1 q.2.2.1 q.2.2.2 else if x1 = 3 then (lp (fun q : Int32 × Int32 × Zh => bX12_tells_132 g r0 x2 x3 x4 q.1 q.2.1 q.2.2) zB ((0 : Int32), ((0 : Int32), h))).bind fun q => kX12_tells_132 g r0 q.1 q.2.1 q.2.2.1 q.2.2.2 else (lp (fun q : Int32 × Int32 × Zh => bX12_tells_189 g x4 y4 q.1 q.2.1 q.2.2) zB ((0 : Int32), ((0 : Int32), h))).bind fun q => kX12_tells_189 g y4 q.1 q.2.1 q.2.2.1 q.2.2.2 else none else none
theorem dX12_laysCodes_0 : decode cX12_laysCodes 0 = .ok (.aload_n 0, 1) := by decide +kernel
theorem dX12_laysCodes_1 : decode cX12_laysCodes 1 = .ok (.iconst 0, 1) := by decide +kernel
theorem dX12_laysCodes_2 : decode cX12_laysCodes 2 = .ok (.putfield 397, 3) := by decide +kernel
theorem dX12_laysCodes_5 : decode cX12_laysCodes 5 = .ok (.iconst 0, 1) := by decide +kernel
theorem dX12_laysCodes_6 : decode cX12_laysCodes 6 = .ok (.istore_n 1, 1) := by decide +kernel
theorem dX12_laysCodes_7 : decode cX12_laysCodes 7 = .ok (.iload_n 1, 1) := by decide +kernel
theorem dX12_laysCodes_8 : decode cX12_laysCodes 8 = .ok (.iconst 1, 1) := by decide +kernel
theorem dX12_laysCodes_9 : decode cX12_laysCodes 9 = .ok (.iconst 3, 1) := by decide +kernel
theorem dX12_laysCodes_10 : decode cX12_laysCodes 10 = .ok (.aload_n 0, 1) := by decide +kernel
theorem dX12_laysCodes_11 : decode cX12_laysCodes 11 = .ok (.getfield 329, 3) := by decide +kernel
theorem dX12_laysCodes_14 : decode cX12_laysCodes 14 = .ok (.getfield 257, 3) := by decide +kernel
theorem dX12_laysCodes_17 : decode cX12_laysCodes 17 = .ok (.imul, 1) := by decide +kernel
theorem dX12_laysCodes_18 : decode cX12_laysCodes 18 = .ok (.ishl, 1) := by decide +kernel
theorem dX12_laysCodes_19 : decode cX12_laysCodes 19 = .ok (.if_icmp .ge 135, 3) := by decide +kernel
theorem dX12_laysCodes_22 : decode cX12_laysCodes 22 = .ok (.iconst 0, 1) := by decide +kernel
theorem dX12_laysCodes_23 : decode cX12_laysCodes 23 = .ok (.istore_n 2, 1) := by decide +kernel
theorem dX12_laysCodes_24 : decode cX12_laysCodes 24 = .ok (.iconst 1, 1) := by decide +kernel
theorem dX12_laysCodes_25 : decode cX12_laysCodes 25 = .ok (.istore_n 3, 1) := by decide +kernel
theorem dX12_laysCodes_26 : decode cX12_laysCodes 26 = .ok (.iconst 0, 1) := by decide +kernel
theorem dX12_laysCodes_27 : decode cX12_laysCodes 27 = .ok (.istore 4, 2) := by decide +kernel
theorem dX12_laysCodes_29 : decode cX12_laysCodes 29 = .ok (.iload 4, 2) := by decide +kernel
theorem dX12_laysCodes_31 : decode cX12_laysCodes 31 = .ok (.aload_n 0, 1) := by decide +kernel
theorem dX12_laysCodes_32 : decode cX12_laysCodes 32 = .ok (.getfield 329, 3) := by decide +kernel
theorem dX12_laysCodes_35 : decode cX12_laysCodes 35 = .ok (.getfield 257, 3) := by decide +kernel
theorem dX12_laysCodes_38 : decode cX12_laysCodes 38 = .ok (.if_icmp .ge 83, 3) := by decide +kernel
theorem dX12_laysCodes_41 : decode cX12_laysCodes 41 = .ok (.iload_n 3, 1) := by decide +kernel
theorem dX12_laysCodes_42 : decode cX12_laysCodes 42 = .ok (.ifCond .eq 79, 3) := by decide +kernel
theorem dX12_laysCodes_45 : decode cX12_laysCodes 45 = .ok (.iload_n 1, 1) := by decide +kernel
theorem dX12_laysCodes_46 : decode cX12_laysCodes 46 = .ok (.iconst 3, 1) := by decide +kernel
theorem dX12_laysCodes_47 : decode cX12_laysCodes 47 = .ok (.aload_n 0, 1) := by decide +kernel
theorem dX12_laysCodes_48 : decode cX12_laysCodes 48 = .ok (.getfield 329, 3) := by decide +kernel
theorem dX12_laysCodes_51 : decode cX12_laysCodes 51 = .ok (.getfield 257, 3) := by decide +kernel
theorem dX12_laysCodes_54 : decode cX12_laysCodes 54 = .ok (.iconst 1, 1) := by decide +kernel
theorem dX12_laysCodes_55 : decode cX12_laysCodes 55 = .ok (.isub, 1) := by decide +kernel
theorem dX12_laysCodes_56 : decode cX12_laysCodes 56 = .ok (.iload 4, 2) := by decide +kernel
theorem dX12_laysCodes_58 : decode cX12_laysCodes 58 = .ok (.isub, 1) := by decide +kernel
theorem dX12_laysCodes_59 : decode cX12_laysCodes 59 = .ok (.imul, 1) := by decide +kernel
theorem dX12_laysCodes_60 : decode cX12_laysCodes 60 = .ok (.ishr, 1) := by decide +kernel
theorem dX12_laysCodes_61 : decode cX12_laysCodes 61 = .ok (.bipush 7, 2) := by decide +kernel
theorem dX12_laysCodes_63 : decode cX12_laysCodes 63 = .ok (.iand, 1) := by decide +kernel
theorem dX12_laysCodes_64 : decode cX12_laysCodes 64 = .ok (.istore 5, 2) := by decide +kernel
theorem dX12_laysCodes_66 : decode cX12_laysCodes 66 = .ok (.iload 5, 2) := by decide +kernel
theorem dX12_laysCodes_68 : decode cX12_laysCodes 68 = .ok (.aload_n 0, 1) := by decide +kernel
theorem dX12_laysCodes_69 : decode cX12_laysCodes 69 = .ok (.getfield 329, 3) := by decide +kernel
theorem dX12_laysCodes_72 : decode cX12_laysCodes 72 = .ok (.getfield 232, 3) := by decide +kernel
theorem dX12_laysCodes_75 : decode cX12_laysCodes 75 = .ok (.if_icmp .ge 31, 3) := by decide +kernel
theorem dX12_laysCodes_78 : decode cX12_laysCodes 78 = .ok (.iload_n 2, 1) := by decide +kernel
theorem dX12_laysCodes_79 : decode cX12_laysCodes 79 = .ok (.iload 5, 2) := by decide +kernel
theorem dX12_laysCodes_81 : decode cX12_laysCodes 81 = .ok (.ishr, 1) := by decide +kernel
theorem dX12_laysCodes_82 : decode cX12_laysCodes 82 = .ok (.iconst 1, 1) := by decide +kernel
theorem dX12_laysCodes_83 : decode cX12_laysCodes 83 = .ok (.iand, 1) := by decide +kernel
theorem dX12_laysCodes_84 : decode cX12_laysCodes 84 = .ok (.ifCond .ne 22, 3) := by decide +kernel
theorem dX12_laysCodes_87 : decode cX12_laysCodes 87 = .ok (.aload_n 0, 1) := by decide +kernel
theorem dX12_laysCodes_88 : decode cX12_laysCodes 88 = .ok (.invokevirtual 388, 3) := by decide +kernel
theorem dX12_laysCodes_91 : decode cX12_laysCodes 91 = .ok (.ifCond .eq 11, 3) := by decide +kernel
theorem dX12_laysCodes_94 : decode cX12_laysCodes 94 = .ok (.iload_n 2, 1) := by decide +kernel
theorem dX12_laysCodes_95 : decode cX12_laysCodes 95 = .ok (.iconst 1, 1) := by decide +kernel
theorem dX12_laysCodes_96 : decode cX12_laysCodes 96 = .ok (.iload 5, 2) := by decide +kernel
theorem dX12_laysCodes_98 : decode cX12_laysCodes 98 = .ok (.ishl, 1) := by decide +kernel
theorem dX12_laysCodes_99 : decode cX12_laysCodes 99 = .ok (.if_icmp .ge 7, 3) := by decide +kernel
theorem dX12_laysCodes_102 : decode cX12_laysCodes 102 = .ok (.iconst 1, 1) := by decide +kernel
theorem dX12_laysCodes_103 : decode cX12_laysCodes 103 = .ok (.goto 4, 3) := by decide +kernel
theorem dX12_laysCodes_106 : decode cX12_laysCodes 106 = .ok (.iconst 0, 1) := by decide +kernel
theorem dX12_laysCodes_107 : decode cX12_laysCodes 107 = .ok (.istore_n 3, 1) := by decide +kernel
theorem dX12_laysCodes_108 : decode cX12_laysCodes 108 = .ok (.iload_n 2, 1) := by decide +kernel
theorem dX12_laysCodes_109 : decode cX12_laysCodes 109 = .ok (.iconst 1, 1) := by decide +kernel
theorem dX12_laysCodes_110 : decode cX12_laysCodes 110 = .ok (.iload 5, 2) := by decide +kernel
theorem dX12_laysCodes_112 : decode cX12_laysCodes 112 = .ok (.ishl, 1) := by decide +kernel
theorem dX12_laysCodes_113 : decode cX12_laysCodes 113 = .ok (.ior, 1) := by decide +kernel
theorem dX12_laysCodes_114 : decode cX12_laysCodes 114 = .ok (.istore_n 2, 1) := by decide +kernel
theorem dX12_laysCodes_115 : decode cX12_laysCodes 115 = .ok (.iinc 4 1, 3) := by decide +kernel
theorem dX12_laysCodes_118 : decode cX12_laysCodes 118 = .ok (.goto (-89), 3) := by decide +kernel
theorem dX12_laysCodes_121 : decode cX12_laysCodes 121 = .ok (.iload_n 3, 1) := by decide +kernel
theorem dX12_laysCodes_122 : decode cX12_laysCodes 122 = .ok (.ifCond .ne 6, 3) := by decide +kernel
theorem dX12_laysCodes_125 : decode cX12_laysCodes 125 = .ok (.goto 23, 3) := by decide +kernel
theorem dX12_laysCodes_128 : decode cX12_laysCodes 128 = .ok (.aload_n 0, 1) := by decide +kernel
theorem dX12_laysCodes_129 : decode cX12_laysCodes 129 = .ok (.getfield 33, 3) := by decide +kernel
theorem dX12_laysCodes_132 : decode cX12_laysCodes 132 = .ok (.aload_n 0, 1) := by decide +kernel
theorem dX12_laysCodes_133 : decode cX12_laysCodes 133 = .ok (.getfield 397, 3) := by decide +kernel
theorem dX12_laysCodes_136 : decode cX12_laysCodes 136 = .ok (.iload_n 1, 1) := by decide +kernel
theorem dX12_laysCodes_137 : decode cX12_laysCodes 137 = .ok (.iastore, 1) := by decide +kernel
theorem dX12_laysCodes_138 : decode cX12_laysCodes 138 = .ok (.aload_n 0, 1) := by decide +kernel
theorem dX12_laysCodes_139 : decode cX12_laysCodes 139 = .ok (.dup, 1) := by decide +kernel
theorem dX12_laysCodes_140 : decode cX12_laysCodes 140 = .ok (.getfield 397, 3) := by decide +kernel
theorem dX12_laysCodes_143 : decode cX12_laysCodes 143 = .ok (.iconst 1, 1) := by decide +kernel
theorem dX12_laysCodes_144 : decode cX12_laysCodes 144 = .ok (.iadd, 1) := by decide +kernel
theorem dX12_laysCodes_145 : decode cX12_laysCodes 145 = .ok (.putfield 397, 3) := by decide +kernel
theorem dX12_laysCodes_148 : decode cX12_laysCodes 148 = .ok (.iinc 1 1, 3) := by decide +kernel
theorem dX12_laysCodes_151 : decode cX12_laysCodes 151 = .ok (.goto (-144), 3) := by decide +kernel
theorem dX12_laysCodes_154 : decode cX12_laysCodes 154 = .ok (.return_, 1) := by decide +kernel
theorem dX12_puts_0 : decode cX12_puts 0 = .ok (.aload_n 0, 1) := by decide +kernel
theorem dX12_puts_1 : decode cX12_puts 1 = .ok (.getfield 329, 3) := by decide +kernel
theorem dX12_puts_4 : decode cX12_puts 4 = .ok (.invokevirtual 354, 3) := by decide +kernel
theorem dX12_puts_7 : decode cX12_puts 7 = .ok (.istore_n 2, 1) := by decide +kernel
theorem dX12_puts_8 : decode cX12_puts 8 = .ok (.aload_n 0, 1) := by decide +kernel
theorem dX12_puts_9 : decode cX12_puts 9 = .ok (.getfield 400, 3) := by decide +kernel
theorem dX12_puts_12 : decode cX12_puts 12 = .ok (.istore_n 3, 1) := by decide +kernel
theorem dX12_puts_13 : decode cX12_puts 13 = .ok (.iload_n 3, 1) := by decide +kernel
theorem dX12_puts_14 : decode cX12_puts 14 = .ok (.ifCond .le 57, 3) := by decide +kernel
theorem dX12_puts_17 : decode cX12_puts 17 = .ok (.aload_n 0, 1) := by decide +kernel
theorem dX12_puts_18 : decode cX12_puts 18 = .ok (.getfield 30, 3) := by decide +kernel
theorem dX12_puts_21 : decode cX12_puts 21 = .ok (.iload_n 3, 1) := by decide +kernel
theorem dX12_puts_22 : decode cX12_puts 22 = .ok (.iconst 1, 1) := by decide +kernel
theorem dX12_puts_23 : decode cX12_puts 23 = .ok (.isub, 1) := by decide +kernel
theorem dX12_puts_24 : decode cX12_puts 24 = .ok (.iaload, 1) := by decide +kernel
theorem dX12_puts_25 : decode cX12_puts 25 = .ok (.iload_n 1, 1) := by decide +kernel
theorem dX12_puts_26 : decode cX12_puts 26 = .ok (.if_icmp .le 45, 3) := by decide +kernel
theorem dX12_puts_29 : decode cX12_puts 29 = .ok (.iconst 1, 1) := by decide +kernel
theorem dX12_puts_30 : decode cX12_puts 30 = .ok (.istore 4, 2) := by decide +kernel
theorem dX12_puts_32 : decode cX12_puts 32 = .ok (.iload 4, 2) := by decide +kernel
theorem dX12_puts_34 : decode cX12_puts 34 = .ok (.iload_n 2, 1) := by decide +kernel
theorem dX12_puts_35 : decode cX12_puts 35 = .ok (.if_icmp .gt 29, 3) := by decide +kernel
theorem dX12_puts_38 : decode cX12_puts 38 = .ok (.aload_n 0, 1) := by decide +kernel
theorem dX12_puts_39 : decode cX12_puts 39 = .ok (.getfield 30, 3) := by decide +kernel
theorem dX12_puts_42 : decode cX12_puts 42 = .ok (.iload_n 3, 1) := by decide +kernel
theorem dX12_puts_43 : decode cX12_puts 43 = .ok (.iload 4, 2) := by decide +kernel
theorem dX12_puts_45 : decode cX12_puts 45 = .ok (.isub, 1) := by decide +kernel
theorem dX12_puts_46 : decode cX12_puts 46 = .ok (.iload_n 2, 1) := by decide +kernel
theorem dX12_puts_47 : decode cX12_puts 47 = .ok (.iadd, 1) := by decide +kernel
theorem dX12_puts_48 : decode cX12_puts 48 = .ok (.aload_n 0, 1) := by decide +kernel
theorem dX12_puts_49 : decode cX12_puts 49 = .ok (.getfield 30, 3) := by decide +kernel
theorem dX12_puts_52 : decode cX12_puts 52 = .ok (.iload_n 3, 1) := by decide +kernel
theorem dX12_puts_53 : decode cX12_puts 53 = .ok (.iload 4, 2) := by decide +kernel
theorem dX12_puts_55 : decode cX12_puts 55 = .ok (.isub, 1) := by decide +kernel
theorem dX12_puts_56 : decode cX12_puts 56 = .ok (.iaload, 1) := by decide +kernel
theorem dX12_puts_57 : decode cX12_puts 57 = .ok (.iastore, 1) := by decide +kernel
theorem dX12_puts_58 : decode cX12_puts 58 = .ok (.iinc 4 1, 3) := by decide +kernel
theorem dX12_puts_61 : decode cX12_puts 61 = .ok (.goto (-29), 3) := by decide +kernel
theorem dX12_puts_64 : decode cX12_puts 64 = .ok (.iload_n 3, 1) := by decide +kernel
theorem dX12_puts_65 : decode cX12_puts 65 = .ok (.iload_n 2, 1) := by decide +kernel
theorem dX12_puts_66 : decode cX12_puts 66 = .ok (.isub, 1) := by decide +kernel
theorem dX12_puts_67 : decode cX12_puts 67 = .ok (.istore_n 3, 1) := by decide +kernel
theorem dX12_puts_68 : decode cX12_puts 68 = .ok (.goto (-55), 3) := by decide +kernel
theorem dX12_puts_71 : decode cX12_puts 71 = .ok (.iconst 0, 1) := by decide +kernel
theorem dX12_puts_72 : decode cX12_puts 72 = .ok (.istore 4, 2) := by decide +kernel
theorem dX12_puts_74 : decode cX12_puts 74 = .ok (.iload 4, 2) := by decide +kernel
theorem dX12_puts_76 : decode cX12_puts 76 = .ok (.iload_n 2, 1) := by decide +kernel
theorem dX12_puts_77 : decode cX12_puts 77 = .ok (.if_icmp .ge 22, 3) := by decide +kernel
theorem dX12_puts_80 : decode cX12_puts 80 = .ok (.aload_n 0, 1) := by decide +kernel
theorem dX12_puts_81 : decode cX12_puts 81 = .ok (.getfield 30, 3) := by decide +kernel
theorem dX12_puts_84 : decode cX12_puts 84 = .ok (.iload_n 3, 1) := by decide +kernel
theorem dX12_puts_85 : decode cX12_puts 85 = .ok (.iload 4, 2) := by decide +kernel
theorem dX12_puts_87 : decode cX12_puts 87 = .ok (.iadd, 1) := by decide +kernel
theorem dX12_puts_88 : decode cX12_puts 88 = .ok (.iload_n 1, 1) := by decide +kernel
theorem dX12_puts_89 : decode cX12_puts 89 = .ok (.iload 4, 2) := by decide +kernel
theorem dX12_puts_91 : decode cX12_puts 91 = .ok (.iadd, 1) := by decide +kernel
theorem dX12_puts_92 : decode cX12_puts 92 = .ok (.iastore, 1) := by decide +kernel
theorem dX12_puts_93 : decode cX12_puts 93 = .ok (.iinc 4 1, 3) := by decide +kernel
theorem dX12_puts_96 : decode cX12_puts 96 = .ok (.goto (-22), 3) := by decide +kernel
theorem dX12_puts_99 : decode cX12_puts 99 = .ok (.aload_n 0, 1) := by decide +kernel
theorem dX12_puts_100 : decode cX12_puts 100 = .ok (.dup, 1) := by decide +kernel
theorem dX12_puts_101 : decode cX12_puts 101 = .ok (.getfield 400, 3) := by decide +kernel
theorem dX12_puts_104 : decode cX12_puts 104 = .ok (.iload_n 2, 1) := by decide +kernel
theorem dX12_puts_105 : decode cX12_puts 105 = .ok (.iadd, 1) := by decide +kernel
theorem dX12_puts_106 : decode cX12_puts 106 = .ok (.putfield 400, 3) := by decide +kernel
theorem dX12_puts_109 : decode cX12_puts 109 = .ok (.return_, 1) := by decide +kernel
theorem dX12_fitsOf_0 : decode cX12_fitsOf 0 = .ok (.aload_n 0, 1) := by decide +kernel
theorem dX12_fitsOf_1 : decode cX12_fitsOf 1 = .ok (.iconst 0, 1) := by decide +kernel
theorem dX12_fitsOf_2 : decode cX12_fitsOf 2 = .ok (.putfield 400, 3) := by decide +kernel
theorem dX12_fitsOf_5 : decode cX12_fitsOf 5 = .ok (.iconst 0, 1) := by decide +kernel
theorem dX12_fitsOf_6 : decode cX12_fitsOf 6 = .ok (.istore_n 2, 1) := by decide +kernel
theorem dX12_fitsOf_7 : decode cX12_fitsOf 7 = .ok (.iload_n 2, 1) := by decide +kernel
theorem dX12_fitsOf_8 : decode cX12_fitsOf 8 = .ok (.aload_n 0, 1) := by decide +kernel
theorem dX12_fitsOf_9 : decode cX12_fitsOf 9 = .ok (.getfield 397, 3) := by decide +kernel
theorem dX12_fitsOf_12 : decode cX12_fitsOf 12 = .ok (.if_icmp .ge 83, 3) := by decide +kernel
theorem dX12_fitsOf_15 : decode cX12_fitsOf 15 = .ok (.iconst 0, 1) := by decide +kernel
theorem dX12_fitsOf_16 : decode cX12_fitsOf 16 = .ok (.istore_n 3, 1) := by decide +kernel
theorem dX12_fitsOf_17 : decode cX12_fitsOf 17 = .ok (.iload_n 3, 1) := by decide +kernel
theorem dX12_fitsOf_18 : decode cX12_fitsOf 18 = .ok (.aload_n 0, 1) := by decide +kernel
theorem dX12_fitsOf_19 : decode cX12_fitsOf 19 = .ok (.getfield 329, 3) := by decide +kernel
theorem dX12_fitsOf_22 : decode cX12_fitsOf 22 = .ok (.getfield 257, 3) := by decide +kernel
theorem dX12_fitsOf_25 : decode cX12_fitsOf 25 = .ok (.if_icmp .ge 43, 3) := by decide +kernel
theorem dX12_fitsOf_28 : decode cX12_fitsOf 28 = .ok (.aload_n 0, 1) := by decide +kernel
theorem dX12_fitsOf_29 : decode cX12_fitsOf 29 = .ok (.getfield 24, 3) := by decide +kernel
theorem dX12_fitsOf_32 : decode cX12_fitsOf 32 = .ok (.iload_n 3, 1) := by decide +kernel
theorem dX12_fitsOf_33 : decode cX12_fitsOf 33 = .ok (.aload_n 0, 1) := by decide +kernel
theorem dX12_fitsOf_34 : decode cX12_fitsOf 34 = .ok (.iload_n 1, 1) := by decide +kernel
theorem dX12_fitsOf_35 : decode cX12_fitsOf 35 = .ok (.aload_n 0, 1) := by decide +kernel
theorem dX12_fitsOf_36 : decode cX12_fitsOf 36 = .ok (.getfield 33, 3) := by decide +kernel
theorem dX12_fitsOf_39 : decode cX12_fitsOf 39 = .ok (.iload_n 2, 1) := by decide +kernel
theorem dX12_fitsOf_40 : decode cX12_fitsOf 40 = .ok (.iaload, 1) := by decide +kernel
theorem dX12_fitsOf_41 : decode cX12_fitsOf 41 = .ok (.iconst 3, 1) := by decide +kernel
theorem dX12_fitsOf_42 : decode cX12_fitsOf 42 = .ok (.aload_n 0, 1) := by decide +kernel
theorem dX12_fitsOf_43 : decode cX12_fitsOf 43 = .ok (.getfield 329, 3) := by decide +kernel
theorem dX12_fitsOf_46 : decode cX12_fitsOf 46 = .ok (.getfield 257, 3) := by decide +kernel
theorem dX12_fitsOf_49 : decode cX12_fitsOf 49 = .ok (.iconst 1, 1) := by decide +kernel
theorem dX12_fitsOf_50 : decode cX12_fitsOf 50 = .ok (.isub, 1) := by decide +kernel
theorem dX12_fitsOf_51 : decode cX12_fitsOf 51 = .ok (.iload_n 3, 1) := by decide +kernel
theorem dX12_fitsOf_52 : decode cX12_fitsOf 52 = .ok (.isub, 1) := by decide +kernel
theorem dX12_fitsOf_53 : decode cX12_fitsOf 53 = .ok (.imul, 1) := by decide +kernel
theorem dX12_fitsOf_54 : decode cX12_fitsOf 54 = .ok (.ishr, 1) := by decide +kernel
theorem dX12_fitsOf_55 : decode cX12_fitsOf 55 = .ok (.bipush 7, 2) := by decide +kernel
theorem dX12_fitsOf_57 : decode cX12_fitsOf 57 = .ok (.iand, 1) := by decide +kernel
theorem dX12_fitsOf_58 : decode cX12_fitsOf 58 = .ok (.invokevirtual 366, 3) := by decide +kernel
theorem dX12_fitsOf_61 : decode cX12_fitsOf 61 = .ok (.iastore, 1) := by decide +kernel
theorem dX12_fitsOf_62 : decode cX12_fitsOf 62 = .ok (.iinc 3 1, 3) := by decide +kernel
theorem dX12_fitsOf_65 : decode cX12_fitsOf 65 = .ok (.goto (-48), 3) := by decide +kernel
theorem dX12_fitsOf_68 : decode cX12_fitsOf 68 = .ok (.aload_n 0, 1) := by decide +kernel
theorem dX12_fitsOf_69 : decode cX12_fitsOf 69 = .ok (.aload_n 0, 1) := by decide +kernel
theorem dX12_fitsOf_70 : decode cX12_fitsOf 70 = .ok (.aload_n 0, 1) := by decide +kernel
theorem dX12_fitsOf_71 : decode cX12_fitsOf 71 = .ok (.getfield 24, 3) := by decide +kernel
theorem dX12_fitsOf_74 : decode cX12_fitsOf 74 = .ok (.iconst 0, 1) := by decide +kernel
theorem dX12_fitsOf_75 : decode cX12_fitsOf 75 = .ok (.invokevirtual 351, 3) := by decide +kernel
theorem dX12_fitsOf_78 : decode cX12_fitsOf 78 = .ok (.aload_n 0, 1) := by decide +kernel
theorem dX12_fitsOf_79 : decode cX12_fitsOf 79 = .ok (.getfield 329, 3) := by decide +kernel
theorem dX12_fitsOf_82 : decode cX12_fitsOf 82 = .ok (.invokevirtual 354, 3) := by decide +kernel
theorem dX12_fitsOf_85 : decode cX12_fitsOf 85 = .ok (.imul, 1) := by decide +kernel
theorem dX12_fitsOf_86 : decode cX12_fitsOf 86 = .ok (.invokevirtual 403, 3) := by decide +kernel
theorem dX12_fitsOf_89 : decode cX12_fitsOf 89 = .ok (.iinc 2 1, 3) := by decide +kernel
theorem dX12_fitsOf_92 : decode cX12_fitsOf 92 = .ok (.goto (-85), 3) := by decide +kernel
theorem dX12_fitsOf_95 : decode cX12_fitsOf 95 = .ok (.return_, 1) := by decide +kernel
theorem dX12_sorts_0 : decode cX12_sorts 0 = .ok (.iconst 0, 1) := by decide +kernel
theorem dX12_sorts_1 : decode cX12_sorts 1 = .ok (.istore_n 2, 1) := by decide +kernel
theorem dX12_sorts_2 : decode cX12_sorts 2 = .ok (.iload_n 2, 1) := by decide +kernel
theorem dX12_sorts_3 : decode cX12_sorts 3 = .ok (.aload_n 0, 1) := by decide +kernel
theorem dX12_sorts_4 : decode cX12_sorts 4 = .ok (.getfield 329, 3) := by decide +kernel
theorem dX12_sorts_7 : decode cX12_sorts 7 = .ok (.getfield 232, 3) := by decide +kernel
theorem dX12_sorts_10 : decode cX12_sorts 10 = .ok (.if_icmp .ge 64, 3) := by decide +kernel
theorem dX12_sorts_13 : decode cX12_sorts 13 = .ok (.iload_n 2, 1) := by decide +kernel
theorem dX12_sorts_14 : decode cX12_sorts 14 = .ok (.istore_n 3, 1) := by decide +kernel
theorem dX12_sorts_15 : decode cX12_sorts 15 = .ok (.aload_n 0, 1) := by decide +kernel
theorem dX12_sorts_16 : decode cX12_sorts 16 = .ok (.iload_n 1, 1) := by decide +kernel
theorem dX12_sorts_17 : decode cX12_sorts 17 = .ok (.iload_n 2, 1) := by decide +kernel
theorem dX12_sorts_18 : decode cX12_sorts 18 = .ok (.invokevirtual 366, 3) := by decide +kernel
theorem dX12_sorts_21 : decode cX12_sorts 21 = .ok (.istore 4, 2) := by decide +kernel
theorem dX12_sorts_23 : decode cX12_sorts 23 = .ok (.iload_n 3, 1) := by decide +kernel
theorem dX12_sorts_24 : decode cX12_sorts 24 = .ok (.ifCond .le 36, 3) := by decide +kernel
theorem dX12_sorts_27 : decode cX12_sorts 27 = .ok (.aload_n 0, 1) := by decide +kernel
theorem dX12_sorts_28 : decode cX12_sorts 28 = .ok (.getfield 27, 3) := by decide +kernel
theorem dX12_sorts_31 : decode cX12_sorts 31 = .ok (.iload_n 3, 1) := by decide +kernel
theorem dX12_sorts_32 : decode cX12_sorts 32 = .ok (.iconst 1, 1) := by decide +kernel
theorem dX12_sorts_33 : decode cX12_sorts 33 = .ok (.isub, 1) := by decide +kernel
theorem dX12_sorts_34 : decode cX12_sorts 34 = .ok (.iaload, 1) := by decide +kernel
theorem dX12_sorts_35 : decode cX12_sorts 35 = .ok (.iload 4, 2) := by decide +kernel
theorem dX12_sorts_37 : decode cX12_sorts 37 = .ok (.if_icmp .le 23, 3) := by decide +kernel
theorem dX12_sorts_40 : decode cX12_sorts 40 = .ok (.aload_n 0, 1) := by decide +kernel
theorem dX12_sorts_41 : decode cX12_sorts 41 = .ok (.getfield 27, 3) := by decide +kernel
theorem dX12_sorts_44 : decode cX12_sorts 44 = .ok (.iload_n 3, 1) := by decide +kernel
theorem dX12_sorts_45 : decode cX12_sorts 45 = .ok (.aload_n 0, 1) := by decide +kernel
theorem dX12_sorts_46 : decode cX12_sorts 46 = .ok (.getfield 27, 3) := by decide +kernel
theorem dX12_sorts_49 : decode cX12_sorts 49 = .ok (.iload_n 3, 1) := by decide +kernel
theorem dX12_sorts_50 : decode cX12_sorts 50 = .ok (.iconst 1, 1) := by decide +kernel
theorem dX12_sorts_51 : decode cX12_sorts 51 = .ok (.isub, 1) := by decide +kernel
theorem dX12_sorts_52 : decode cX12_sorts 52 = .ok (.iaload, 1) := by decide +kernel
theorem dX12_sorts_53 : decode cX12_sorts 53 = .ok (.iastore, 1) := by decide +kernel
theorem dX12_sorts_54 : decode cX12_sorts 54 = .ok (.iinc 3 (-1), 3) := by decide +kernel
theorem dX12_sorts_57 : decode cX12_sorts 57 = .ok (.goto (-34), 3) := by decide +kernel
theorem dX12_sorts_60 : decode cX12_sorts 60 = .ok (.aload_n 0, 1) := by decide +kernel
theorem dX12_sorts_61 : decode cX12_sorts 61 = .ok (.getfield 27, 3) := by decide +kernel
theorem dX12_sorts_64 : decode cX12_sorts 64 = .ok (.iload_n 3, 1) := by decide +kernel
theorem dX12_sorts_65 : decode cX12_sorts 65 = .ok (.iload 4, 2) := by decide +kernel
theorem dX12_sorts_67 : decode cX12_sorts 67 = .ok (.iastore, 1) := by decide +kernel
theorem dX12_sorts_68 : decode cX12_sorts 68 = .ok (.iinc 2 1, 3) := by decide +kernel
theorem dX12_sorts_71 : decode cX12_sorts 71 = .ok (.goto (-69), 3) := by decide +kernel
theorem dX12_sorts_74 : decode cX12_sorts 74 = .ok (.return_, 1) := by decide +kernel
theorem dX12_keepsAt_0 : decode cX12_keepsAt 0 = .ok (.aload_n 0, 1) := by decide +kernel
theorem dX12_keepsAt_1 : decode cX12_keepsAt 1 = .ok (.getfield 329, 3) := by decide +kernel
theorem dX12_keepsAt_4 : decode cX12_keepsAt 4 = .ok (.getfield 232, 3) := by decide +kernel
theorem dX12_keepsAt_7 : decode cX12_keepsAt 7 = .ok (.istore_n 2, 1) := by decide +kernel
theorem dX12_keepsAt_8 : decode cX12_keepsAt 8 = .ok (.iconst 0, 1) := by decide +kernel
theorem dX12_keepsAt_9 : decode cX12_keepsAt 9 = .ok (.istore_n 3, 1) := by decide +kernel
theorem dX12_keepsAt_10 : decode cX12_keepsAt 10 = .ok (.iconst 0, 1) := by decide +kernel
theorem dX12_keepsAt_11 : decode cX12_keepsAt 11 = .ok (.istore 4, 2) := by decide +kernel
theorem dX12_keepsAt_13 : decode cX12_keepsAt 13 = .ok (.iload 4, 2) := by decide +kernel
theorem dX12_keepsAt_15 : decode cX12_keepsAt 15 = .ok (.iload_n 2, 1) := by decide +kernel
theorem dX12_keepsAt_16 : decode cX12_keepsAt 16 = .ok (.if_icmp .ge 19, 3) := by decide +kernel
theorem dX12_keepsAt_19 : decode cX12_keepsAt 19 = .ok (.iload_n 3, 1) := by decide +kernel
theorem dX12_keepsAt_20 : decode cX12_keepsAt 20 = .ok (.aload_n 0, 1) := by decide +kernel
theorem dX12_keepsAt_21 : decode cX12_keepsAt 21 = .ok (.getfield 27, 3) := by decide +kernel
theorem dX12_keepsAt_24 : decode cX12_keepsAt 24 = .ok (.iload 4, 2) := by decide +kernel
theorem dX12_keepsAt_26 : decode cX12_keepsAt 26 = .ok (.iaload, 1) := by decide +kernel
theorem dX12_keepsAt_27 : decode cX12_keepsAt 27 = .ok (.iadd, 1) := by decide +kernel
theorem dX12_keepsAt_28 : decode cX12_keepsAt 28 = .ok (.istore_n 3, 1) := by decide +kernel
theorem dX12_keepsAt_29 : decode cX12_keepsAt 29 = .ok (.iinc 4 1, 3) := by decide +kernel
theorem dX12_keepsAt_32 : decode cX12_keepsAt 32 = .ok (.goto (-19), 3) := by decide +kernel
theorem dX12_keepsAt_35 : decode cX12_keepsAt 35 = .ok (.iload_n 1, 1) := by decide +kernel
theorem dX12_keepsAt_36 : decode cX12_keepsAt 36 = .ok (.ifCond .ne 7, 3) := by decide +kernel
theorem dX12_keepsAt_39 : decode cX12_keepsAt 39 = .ok (.iconst 0, 1) := by decide +kernel
theorem dX12_keepsAt_40 : decode cX12_keepsAt 40 = .ok (.goto 36, 3) := by decide +kernel
theorem dX12_keepsAt_43 : decode cX12_keepsAt 43 = .ok (.iload_n 1, 1) := by decide +kernel
theorem dX12_keepsAt_44 : decode cX12_keepsAt 44 = .ok (.iconst 1, 1) := by decide +kernel
theorem dX12_keepsAt_45 : decode cX12_keepsAt 45 = .ok (.if_icmp .ne 9, 3) := by decide +kernel
theorem dX12_keepsAt_48 : decode cX12_keepsAt 48 = .ok (.iload_n 2, 1) := by decide +kernel
theorem dX12_keepsAt_49 : decode cX12_keepsAt 49 = .ok (.iconst 1, 1) := by decide +kernel
theorem dX12_keepsAt_50 : decode cX12_keepsAt 50 = .ok (.isub, 1) := by decide +kernel
theorem dX12_keepsAt_51 : decode cX12_keepsAt 51 = .ok (.goto 25, 3) := by decide +kernel
theorem dX12_keepsAt_54 : decode cX12_keepsAt 54 = .ok (.iload_n 1, 1) := by decide +kernel
theorem dX12_keepsAt_55 : decode cX12_keepsAt 55 = .ok (.iconst 2, 1) := by decide +kernel
theorem dX12_keepsAt_56 : decode cX12_keepsAt 56 = .ok (.if_icmp .ne 17, 3) := by decide +kernel
theorem dX12_keepsAt_59 : decode cX12_keepsAt 59 = .ok (.iload_n 2, 1) := by decide +kernel
theorem dX12_keepsAt_60 : decode cX12_keepsAt 60 = .ok (.aload_n 0, 1) := by decide +kernel
theorem dX12_keepsAt_61 : decode cX12_keepsAt 61 = .ok (.getfield 329, 3) := by decide +kernel
theorem dX12_keepsAt_64 : decode cX12_keepsAt 64 = .ok (.getfield 255, 3) := by decide +kernel
theorem dX12_keepsAt_67 : decode cX12_keepsAt 67 = .ok (.isub, 1) := by decide +kernel
theorem dX12_keepsAt_68 : decode cX12_keepsAt 68 = .ok (.iconst 2, 1) := by decide +kernel
theorem dX12_keepsAt_69 : decode cX12_keepsAt 69 = .ok (.idiv, 1) := by decide +kernel
theorem dX12_keepsAt_70 : decode cX12_keepsAt 70 = .ok (.goto 6, 3) := by decide +kernel
theorem dX12_keepsAt_73 : decode cX12_keepsAt 73 = .ok (.iload_n 3, 1) := by decide +kernel
theorem dX12_keepsAt_74 : decode cX12_keepsAt 74 = .ok (.iload_n 2, 1) := by decide +kernel
theorem dX12_keepsAt_75 : decode cX12_keepsAt 75 = .ok (.irem, 1) := by decide +kernel
theorem dX12_keepsAt_76 : decode cX12_keepsAt 76 = .ok (.ireturn, 1) := by decide +kernel
theorem dX12_tells_0 : decode cX12_tells 0 = .ok (.aload_n 0, 1) := by decide +kernel
theorem dX12_tells_1 : decode cX12_tells 1 = .ok (.getfield 329, 3) := by decide +kernel
theorem dX12_tells_4 : decode cX12_tells 4 = .ok (.getfield 194, 3) := by decide +kernel
theorem dX12_tells_7 : decode cX12_tells 7 = .ok (.istore 5, 2) := by decide +kernel
theorem dX12_tells_9 : decode cX12_tells 9 = .ok (.iconst 0, 1) := by decide +kernel
theorem dX12_tells_10 : decode cX12_tells 10 = .ok (.istore 6, 2) := by decide +kernel
theorem dX12_tells_12 : decode cX12_tells 12 = .ok (.iload_n 1, 1) := by decide +kernel
theorem dX12_tells_13 : decode cX12_tells 13 = .ok (.tableswitch 173 0 3 #[31, 33, 46, 116], 31) := by decide +kernel
theorem dX12_tells_44 : decode cX12_tells 44 = .ok (.iload_n 2, 1) := by decide +kernel
theorem dX12_tells_45 : decode cX12_tells 45 = .ok (.ireturn, 1) := by decide +kernel
theorem dX12_tells_46 : decode cX12_tells 46 = .ok (.iload_n 2, 1) := by decide +kernel
theorem dX12_tells_47 : decode cX12_tells 47 = .ok (.iload 5, 2) := by decide +kernel
theorem dX12_tells_49 : decode cX12_tells 49 = .ok (.aload_n 0, 1) := by decide +kernel
theorem dX12_tells_50 : decode cX12_tells 50 = .ok (.getfield 329, 3) := by decide +kernel
theorem dX12_tells_53 : decode cX12_tells 53 = .ok (.getfield 253, 3) := by decide +kernel
theorem dX12_tells_56 : decode cX12_tells 56 = .ok (.idiv, 1) := by decide +kernel
theorem dX12_tells_57 : decode cX12_tells 57 = .ok (.irem, 1) := by decide +kernel
theorem dX12_tells_58 : decode cX12_tells 58 = .ok (.ireturn, 1) := by decide +kernel
theorem dX12_tells_59 : decode cX12_tells 59 = .ok (.iload 5, 2) := by decide +kernel
theorem dX12_tells_61 : decode cX12_tells 61 = .ok (.istore 6, 2) := by decide +kernel
theorem dX12_tells_63 : decode cX12_tells 63 = .ok (.iconst 0, 1) := by decide +kernel
theorem dX12_tells_64 : decode cX12_tells 64 = .ok (.istore 7, 2) := by decide +kernel
theorem dX12_tells_66 : decode cX12_tells 66 = .ok (.iload 7, 2) := by decide +kernel
theorem dX12_tells_68 : decode cX12_tells 68 = .ok (.aload_n 0, 1) := by decide +kernel
theorem dX12_tells_69 : decode cX12_tells 69 = .ok (.getfield 329, 3) := by decide +kernel
theorem dX12_tells_72 : decode cX12_tells 72 = .ok (.getfield 232, 3) := by decide +kernel
theorem dX12_tells_75 : decode cX12_tells 75 = .ok (.if_icmp .ge 51, 3) := by decide +kernel
theorem dX12_tells_78 : decode cX12_tells 78 = .ok (.aload_n 0, 1) := by decide +kernel
theorem dX12_tells_79 : decode cX12_tells 79 = .ok (.iload_n 3, 1) := by decide +kernel
theorem dX12_tells_80 : decode cX12_tells 80 = .ok (.iload 7, 2) := by decide +kernel
theorem dX12_tells_82 : decode cX12_tells 82 = .ok (.invokevirtual 366, 3) := by decide +kernel
theorem dX12_tells_85 : decode cX12_tells 85 = .ok (.istore 8, 2) := by decide +kernel
theorem dX12_tells_87 : decode cX12_tells 87 = .ok (.iload_n 2, 1) := by decide +kernel
theorem dX12_tells_88 : decode cX12_tells 88 = .ok (.iload 8, 2) := by decide +kernel
theorem dX12_tells_90 : decode cX12_tells 90 = .ok (.isub, 1) := by decide +kernel
theorem dX12_tells_91 : decode cX12_tells 91 = .ok (.iload 5, 2) := by decide +kernel
theorem dX12_tells_93 : decode cX12_tells 93 = .ok (.iadd, 1) := by decide +kernel
theorem dX12_tells_94 : decode cX12_tells 94 = .ok (.iload 5, 2) := by decide +kernel
theorem dX12_tells_96 : decode cX12_tells 96 = .ok (.irem, 1) := by decide +kernel
theorem dX12_tells_97 : decode cX12_tells 97 = .ok (.istore 9, 2) := by decide +kernel
theorem dX12_tells_99 : decode cX12_tells 99 = .ok (.iload 4, 2) := by decide +kernel
theorem dX12_tells_101 : decode cX12_tells 101 = .ok (.iload 8, 2) := by decide +kernel
theorem dX12_tells_103 : decode cX12_tells 103 = .ok (.ishr, 1) := by decide +kernel
theorem dX12_tells_104 : decode cX12_tells 104 = .ok (.iconst 1, 1) := by decide +kernel
theorem dX12_tells_105 : decode cX12_tells 105 = .ok (.iand, 1) := by decide +kernel
theorem dX12_tells_106 : decode cX12_tells 106 = .ok (.ifCond .ne 14, 3) := by decide +kernel
theorem dX12_tells_109 : decode cX12_tells 109 = .ok (.iload 9, 2) := by decide +kernel
theorem dX12_tells_111 : decode cX12_tells 111 = .ok (.iload 6, 2) := by decide +kernel
theorem dX12_tells_113 : decode cX12_tells 113 = .ok (.if_icmp .ge 7, 3) := by decide +kernel
theorem dX12_tells_116 : decode cX12_tells 116 = .ok (.iload 9, 2) := by decide +kernel
theorem dX12_tells_118 : decode cX12_tells 118 = .ok (.istore 6, 2) := by decide +kernel
theorem dX12_tells_120 : decode cX12_tells 120 = .ok (.iinc 7 1, 3) := by decide +kernel
theorem dX12_tells_123 : decode cX12_tells 123 = .ok (.goto (-57), 3) := by decide +kernel
theorem dX12_tells_126 : decode cX12_tells 126 = .ok (.iload 6, 2) := by decide +kernel
theorem dX12_tells_128 : decode cX12_tells 128 = .ok (.ireturn, 1) := by decide +kernel
theorem dX12_tells_129 : decode cX12_tells 129 = .ok (.iconst 0, 1) := by decide +kernel
theorem dX12_tells_130 : decode cX12_tells 130 = .ok (.istore 7, 2) := by decide +kernel
theorem dX12_tells_132 : decode cX12_tells 132 = .ok (.iload 7, 2) := by decide +kernel
theorem dX12_tells_134 : decode cX12_tells 134 = .ok (.iload_n 2, 1) := by decide +kernel
theorem dX12_tells_135 : decode cX12_tells 135 = .ok (.if_icmp .ge 40, 3) := by decide +kernel
theorem dX12_tells_138 : decode cX12_tells 138 = .ok (.iload 6, 2) := by decide +kernel
theorem dX12_tells_140 : decode cX12_tells 140 = .ok (.aload_n 0, 1) := by decide +kernel
theorem dX12_tells_141 : decode cX12_tells 141 = .ok (.iload_n 3, 1) := by decide +kernel
theorem dX12_tells_142 : decode cX12_tells 142 = .ok (.iload 7, 2) := by decide +kernel
theorem dX12_tells_144 : decode cX12_tells 144 = .ok (.invokevirtual 369, 3) := by decide +kernel
theorem dX12_tells_147 : decode cX12_tells 147 = .ok (.ifCond .eq 14, 3) := by decide +kernel
theorem dX12_tells_150 : decode cX12_tells 150 = .ok (.iload 4, 2) := by decide +kernel
theorem dX12_tells_152 : decode cX12_tells 152 = .ok (.iload 7, 2) := by decide +kernel
theorem dX12_tells_154 : decode cX12_tells 154 = .ok (.ishr, 1) := by decide +kernel
theorem dX12_tells_155 : decode cX12_tells 155 = .ok (.iconst 1, 1) := by decide +kernel
theorem dX12_tells_156 : decode cX12_tells 156 = .ok (.iand, 1) := by decide +kernel
theorem dX12_tells_157 : decode cX12_tells 157 = .ok (.iconst 1, 1) := by decide +kernel
theorem dX12_tells_158 : decode cX12_tells 158 = .ok (.if_icmp .ne 7, 3) := by decide +kernel
theorem dX12_tells_161 : decode cX12_tells 161 = .ok (.iconst 1, 1) := by decide +kernel
theorem dX12_tells_162 : decode cX12_tells 162 = .ok (.goto 4, 3) := by decide +kernel
theorem dX12_tells_165 : decode cX12_tells 165 = .ok (.iconst 0, 1) := by decide +kernel
theorem dX12_tells_166 : decode cX12_tells 166 = .ok (.iadd, 1) := by decide +kernel
theorem dX12_tells_167 : decode cX12_tells 167 = .ok (.istore 6, 2) := by decide +kernel
theorem dX12_tells_169 : decode cX12_tells 169 = .ok (.iinc 7 1, 3) := by decide +kernel
theorem dX12_tells_172 : decode cX12_tells 172 = .ok (.goto (-40), 3) := by decide +kernel
theorem dX12_tells_175 : decode cX12_tells 175 = .ok (.iload 6, 2) := by decide +kernel
theorem dX12_tells_177 : decode cX12_tells 177 = .ok (.aload_n 0, 1) := by decide +kernel
theorem dX12_tells_178 : decode cX12_tells 178 = .ok (.getfield 329, 3) := by decide +kernel
theorem dX12_tells_181 : decode cX12_tells 181 = .ok (.getfield 232, 3) := by decide +kernel
theorem dX12_tells_184 : decode cX12_tells 184 = .ok (.idiv, 1) := by decide +kernel
theorem dX12_tells_185 : decode cX12_tells 185 = .ok (.ireturn, 1) := by decide +kernel
theorem dX12_tells_186 : decode cX12_tells 186 = .ok (.iconst 0, 1) := by decide +kernel
theorem dX12_tells_187 : decode cX12_tells 187 = .ok (.istore 7, 2) := by decide +kernel
theorem dX12_tells_189 : decode cX12_tells 189 = .ok (.iload 7, 2) := by decide +kernel
theorem dX12_tells_191 : decode cX12_tells 191 = .ok (.iload 5, 2) := by decide +kernel
theorem dX12_tells_193 : decode cX12_tells 193 = .ok (.if_icmp .ge 31, 3) := by decide +kernel
theorem dX12_tells_196 : decode cX12_tells 196 = .ok (.iload 6, 2) := by decide +kernel
theorem dX12_tells_198 : decode cX12_tells 198 = .ok (.iload 4, 2) := by decide +kernel
theorem dX12_tells_200 : decode cX12_tells 200 = .ok (.iload 7, 2) := by decide +kernel
theorem dX12_tells_202 : decode cX12_tells 202 = .ok (.ishr, 1) := by decide +kernel
theorem dX12_tells_203 : decode cX12_tells 203 = .ok (.iconst 1, 1) := by decide +kernel
theorem dX12_tells_204 : decode cX12_tells 204 = .ok (.iand, 1) := by decide +kernel
theorem dX12_tells_205 : decode cX12_tells 205 = .ok (.iconst 1, 1) := by decide +kernel
theorem dX12_tells_206 : decode cX12_tells 206 = .ok (.if_icmp .ne 8, 3) := by decide +kernel
theorem dX12_tells_209 : decode cX12_tells 209 = .ok (.iload 7, 2) := by decide +kernel
theorem dX12_tells_211 : decode cX12_tells 211 = .ok (.goto 4, 3) := by decide +kernel
theorem dX12_tells_214 : decode cX12_tells 214 = .ok (.iconst 0, 1) := by decide +kernel
theorem dX12_tells_215 : decode cX12_tells 215 = .ok (.iadd, 1) := by decide +kernel
theorem dX12_tells_216 : decode cX12_tells 216 = .ok (.istore 6, 2) := by decide +kernel
theorem dX12_tells_218 : decode cX12_tells 218 = .ok (.iinc 7 1, 3) := by decide +kernel
theorem dX12_tells_221 : decode cX12_tells 221 = .ok (.goto (-32), 3) := by decide +kernel
theorem dX12_tells_224 : decode cX12_tells 224 = .ok (.iload 6, 2) := by decide +kernel
theorem dX12_tells_226 : decode cX12_tells 226 = .ok (.iload 5, 2) := by decide +kernel
theorem dX12_tells_228 : decode cX12_tells 228 = .ok (.irem, 1) := by decide +kernel
theorem dX12_tells_229 : decode cX12_tells 229 = .ok (.ireturn, 1) := by decide +kernel
set_option maxHeartbeats 4000000 in
set_option maxRecDepth 100000 in
theorem sX12_laysCodes {l : Launch} {D : va_G} {cA : Nat → ClassId} {base : Nat} {sA : Nat → Nat} {r0 : Nat} {h hE : Zh} (hf : fX12_laysCodes r0 h = some hE) : zC l yX12_laysCodes cX12_laysCodes 6 none 1 20 D cA base sA [.ref (base + r0)] h none hE := by
  refine g_entry RX12 (by decide) rfl (Nat.le_of_ble_eq_true rfl) ?_
  intro p e s m args below meth c X hr
  unfold fX12_laysCodes at hf
  have hf := zlet_n (x := h) rfl hf
  show zG p l e { frames := 1, cells := 0, slots := 0, locals := 20 } s m args below meth c (MQ below (zQ D cA base h hE none) args s 0 0 (zA base)) 6 D cA base h 0 [(0, .ref (base + r0))] [] h
  refine g_aload_n X 0 dX12_laysCodes_0 rfl ?_
  refine g_iconst X (v := 0) dX12_laysCodes_1 (by decide) ?_
  obtain ⟨hk1, hf⟩ := zite hf
  refine g_putI X zf12 hk1 24 (by decide) w_f_RX12_397 rfl rfl rfl dX12_laysCodes_2 ?_
  refine g_hp (fun h2 eh2 => ?_)
  have hf := zlet_n eh2 hf
  refine g_iconst X (v := 0) dX12_laysCodes_5 (by decide) ?_
  refine g_istore_n X [(1, .int ((0 : Int32))), (0, .ref (base + r0))] dX12_laysCodes_6 (by decide) rfl ?_
  refine g_sub [1, 0] rfl ?_
  obtain ⟨qq, hlp, hf⟩ := zbd hf
  refine lp_snd (body := (fun q : Int32 × Zh => bX12_laysCodes_7 h r0 q.1 q.2)) (P := (fun q : Int32 × Zh => zG p l e { frames := 1, cells := 0, slots := 0, locals := 20 } s m args below meth c (MQ below (zQ D cA base h hE none) args s 0 0 (zA base)) 6 D cA base h 7 [(0, .ref (base + r0)), (1, .int q.1)] [] q.2)) (E := (fun (en : Nat) (q : Int32 × Zh) => zG p l e { frames := 1, cells := 0, slots := 0, locals := 20 } s m args below meth c (MQ below (zQ D cA base h hE none) args s 0 0 (zA base)) 6 D cA base h 154 [] [] q.2)) ?_ zB ((0 : Int32), h2) qq.1 qq.2 hlp ?_
  · intro q e_7 q_7 hf hc0 hc1
    obtain ⟨x1_7, h_7⟩ := q
    have hf : bX12_laysCodes_7 h r0 x1_7 h_7 = some (e_7, q_7) := hf
    unfold bX12_laysCodes_7 at hf
    show zG p l e { frames := 1, cells := 0, slots := 0, locals := 20 } s m args below meth c (MQ below (zQ D cA base h hE none) args s 0 0 (zA base)) 6 D cA base h 7 [(0, .ref (base + r0)), (1, .int x1_7)] [] h_7
    refine g_iload_n X 1 dX12_laysCodes_7 rfl ?_
    refine g_iconst X (v := 1) dX12_laysCodes_8 (by decide) ?_
    refine g_iconst X (v := 3) dX12_laysCodes_9 (by decide) ?_
    refine g_aload_n X 0 dX12_laysCodes_10 rfl ?_
    obtain ⟨r_3, hr_3, hf⟩ := zbd hf
    refine g_get X zf12 hk1 3 (by decide) w_f_RX12_329 rfl (zfv_r hr_3 rfl) dX12_laysCodes_11 ?_
    obtain ⟨hk4, hf⟩ := zite hf
    refine g_getN X zf11 hk4 4 (by decide) w_fn_RX12_257 rfl rfl dX12_laysCodes_14 ?_
    refine g_imul X dX12_laysCodes_17 ?_
    refine g_ishl X dX12_laysCodes_18 ?_
    refine g_icmp_ge X 154 dX12_laysCodes_19 (by decide) (fun hq => ?_) (fun hq => ?_)
    · have hf := zpos hq hf
      cases hf
      have hc1 := hc1 (by decide)
      exact g_sub [] rfl hc1
    · have hf := zneg hq hf
      refine g_iconst X (v := 0) dX12_laysCodes_22 (by decide) ?_
      refine g_istore_n X [(2, .int ((0 : Int32))), (0, .ref (base + r0)), (1, .int x1_7)] dX12_laysCodes_23 (by decide) rfl ?_
      refine g_iconst X (v := 1) dX12_laysCodes_24 (by decide) ?_
      refine g_istore_n X [(3, .int ((1 : Int32))), (2, .int ((0 : Int32))), (0, .ref (base + r0)), (1, .int x1_7)] dX12_laysCodes_25 (by decide) rfl ?_
      refine g_iconst X (v := 0) dX12_laysCodes_26 (by decide) ?_
      refine g_istore X [(4, .int ((0 : Int32))), (3, .int ((1 : Int32))), (2, .int ((0 : Int32))), (0, .ref (base + r0)), (1, .int x1_7)] dX12_laysCodes_27 (by decide) rfl ?_
      refine g_sub [3, 4, 2, 1, 0] rfl ?_
      obtain ⟨qq, hlp, hf⟩ := zbd hf
      refine lp_snd (body := (fun q : Int32 × Int32 × Int32 × Zh => bX12_laysCodes_29 h r0 x1_7 q.1 q.2.1 q.2.2.1 q.2.2.2)) (P := (fun q : Int32 × Int32 × Int32 × Zh => zG p l e { frames := 1, cells := 0, slots := 0, locals := 20 } s m args below meth c (MQ below (zQ D cA base h hE none) args s 0 0 (zA base)) 6 D cA base h 29 [(0, .ref (base + r0)), (1, .int x1_7), (2, .int q.1), (3, .int q.2.1), (4, .int q.2.2.1)] [] q.2.2.2)) (E := (fun (en : Nat) (q : Int32 × Int32 × Int32 × Zh) => zG p l e { frames := 1, cells := 0, slots := 0, locals := 20 } s m args below meth c (MQ below (zQ D cA base h hE none) args s 0 0 (zA base)) 6 D cA base h 121 [(0, .ref (base + r0)), (1, .int x1_7), (3, .int q.2.1)] [] q.2.2.2)) ?_ zB ((0 : Int32), ((1 : Int32), ((0 : Int32), h_7))) qq.1 qq.2 hlp ?_
      · intro q e_29 q_29 hf hc0 hc1
        obtain ⟨x2_29, x3_29, x4_29, h_29⟩ := q
        have hf : bX12_laysCodes_29 h r0 x1_7 x2_29 x3_29 x4_29 h_29 = some (e_29, q_29) := hf
        unfold bX12_laysCodes_29 at hf
        show zG p l e { frames := 1, cells := 0, slots := 0, locals := 20 } s m args below meth c (MQ below (zQ D cA base h hE none) args s 0 0 (zA base)) 6 D cA base h 29 [(0, .ref (base + r0)), (1, .int x1_7), (2, .int x2_29), (3, .int x3_29), (4, .int x4_29)] [] h_29
        refine g_iload X 4 dX12_laysCodes_29 rfl ?_
        refine g_aload_n X 0 dX12_laysCodes_31 rfl ?_
        obtain ⟨r_5, hr_5, hf⟩ := zbd hf
        refine g_get X zf12 hk1 3 (by decide) w_f_RX12_329 rfl (zfv_r hr_5 rfl) dX12_laysCodes_32 ?_
        obtain ⟨hk6, hf⟩ := zite hf
        refine g_getN X zf11 hk6 4 (by decide) w_fn_RX12_257 rfl rfl dX12_laysCodes_35 ?_
        refine g_icmp_ge X 121 dX12_laysCodes_38 (by decide) (fun hq => ?_) (fun hq => ?_)
        · have hf := zpos hq hf
          cases hf
          have hc1 := hc1 (by decide)
          exact g_sub [0, 1, 3] rfl hc1
        · have hf := zneg hq hf
          refine g_iload_n X 3 dX12_laysCodes_41 rfl ?_
          refine g_if_eq X 121 dX12_laysCodes_42 (by decide) (fun hq => ?_) (fun hq => ?_)
          · have hf := zpos hq hf
            cases hf
            have hc1 := hc1 (by decide)
            exact g_sub [0, 1, 3] rfl hc1
          · have hf := zneg hq hf
            refine g_iload_n X 1 dX12_laysCodes_45 rfl ?_
            refine g_iconst X (v := 3) dX12_laysCodes_46 (by decide) ?_
            refine g_aload_n X 0 dX12_laysCodes_47 rfl ?_
            obtain ⟨r_7, hr_7, hf⟩ := zbd hf
            refine g_get X zf12 hk1 3 (by decide) w_f_RX12_329 rfl (zfv_r hr_7 rfl) dX12_laysCodes_48 ?_
            obtain ⟨hk8, hf⟩ := zite hf
            refine g_getN X zf11 hk8 4 (by decide) w_fn_RX12_257 rfl rfl dX12_laysCodes_51 ?_
            refine g_iconst X (v := 1) dX12_laysCodes_54 (by decide) ?_
            refine g_isub X dX12_laysCodes_55 ?_
            refine g_iload X 4 dX12_laysCodes_56 rfl ?_
            refine g_isub X dX12_laysCodes_58 ?_
            refine g_imul X dX12_laysCodes_59 ?_
            refine g_ishr X dX12_laysCodes_60 ?_
            refine g_bipush X (v := 7) dX12_laysCodes_61 (by decide) ?_
            refine g_iand X dX12_laysCodes_63 ?_
            refine g_topi (fun y9 ey9 => ?_)
            have hf := zlet_n ey9 hf
            refine g_istore X [(5, .int y9), (0, .ref (base + r0)), (1, .int x1_7), (2, .int x2_29), (3, .int x3_29), (4, .int x4_29)] dX12_laysCodes_64 (by decide) rfl ?_
            refine g_iload X 0 dX12_laysCodes_66 rfl ?_
            refine g_aload_n X 1 dX12_laysCodes_68 rfl ?_
            obtain ⟨r_10, hr_10, hf⟩ := zbd hf
            refine g_get X zf12 hk1 3 (by decide) w_f_RX12_329 rfl (zfv_r hr_10 rfl) dX12_laysCodes_69 ?_
            obtain ⟨hk11, hf⟩ := zite hf
            refine g_getN X zf11 hk11 2 (by decide) w_fn_RX12_232 rfl rfl dX12_laysCodes_72 ?_
            refine g_icmp_ge X 106 dX12_laysCodes_75 (by decide) (fun hq => ?_) (fun hq => ?_)
            · have hf := zpos hq hf
              refine g_iconst X (v := 0) dX12_laysCodes_106 (by decide) ?_
              refine g_istore_n X [(3, .int ((0 : Int32))), (5, .int y9), (0, .ref (base + r0)), (1, .int x1_7), (2, .int x2_29), (4, .int x4_29)] dX12_laysCodes_107 (by decide) rfl ?_
              refine g_iload_n X 4 dX12_laysCodes_108 rfl ?_
              refine g_iconst X (v := 1) dX12_laysCodes_109 (by decide) ?_
              refine g_iload X 1 dX12_laysCodes_110 rfl ?_
              refine g_ishl X dX12_laysCodes_112 ?_
              refine g_ior X dX12_laysCodes_113 ?_
              refine g_topi (fun y12 ey12 => ?_)
              have hf := zlet_n ey12 hf
              refine g_istore_n X [(2, .int y12), (3, .int ((0 : Int32))), (5, .int y9), (0, .ref (base + r0)), (1, .int x1_7), (4, .int x4_29)] dX12_laysCodes_114 (by decide) rfl ?_
              obtain ⟨y13, ey13⟩ : ∃ y : Int32, y = x4_29 + (1 : Int32) := ⟨_, rfl⟩
              have hf := zlet_n ey13 hf
              refine g_iinc X (j := 5) [(4, .int y13), (2, .int y12), (3, .int ((0 : Int32))), (5, .int y9), (0, .ref (base + r0)), (1, .int x1_7)] dX12_laysCodes_115 rfl (by rw [ey13]; rfl) (by decide) rfl ?_
              refine g_goto X 29 dX12_laysCodes_118 (by decide) ?_
              cases hf
              exact g_sub [4, 5, 1, 2, 0] rfl (hc0 rfl)
            · have hf := zneg hq hf
              refine g_iload_n X 3 dX12_laysCodes_78 rfl ?_
              refine g_iload X 0 dX12_laysCodes_79 rfl ?_
              refine g_ishr X dX12_laysCodes_81 ?_
              refine g_iconst X (v := 1) dX12_laysCodes_82 (by decide) ?_
              refine g_iand X dX12_laysCodes_83 ?_
              refine g_if_ne X 106 dX12_laysCodes_84 (by decide) (fun hq => ?_) (fun hq => ?_)
              · have hf := zneg hq hf
                refine g_iconst X (v := 0) dX12_laysCodes_106 (by decide) ?_
                refine g_istore_n X [(3, .int ((0 : Int32))), (5, .int y9), (0, .ref (base + r0)), (1, .int x1_7), (2, .int x2_29), (4, .int x4_29)] dX12_laysCodes_107 (by decide) rfl ?_
                refine g_iload_n X 4 dX12_laysCodes_108 rfl ?_
                refine g_iconst X (v := 1) dX12_laysCodes_109 (by decide) ?_
                refine g_iload X 1 dX12_laysCodes_110 rfl ?_
                refine g_ishl X dX12_laysCodes_112 ?_
                refine g_ior X dX12_laysCodes_113 ?_
                refine g_topi (fun y14 ey14 => ?_)
                have hf := zlet_n ey14 hf
                refine g_istore_n X [(2, .int y14), (3, .int ((0 : Int32))), (5, .int y9), (0, .ref (base + r0)), (1, .int x1_7), (4, .int x4_29)] dX12_laysCodes_114 (by decide) rfl ?_
                obtain ⟨y15, ey15⟩ : ∃ y : Int32, y = x4_29 + (1 : Int32) := ⟨_, rfl⟩
                have hf := zlet_n ey15 hf
                refine g_iinc X (j := 5) [(4, .int y15), (2, .int y14), (3, .int ((0 : Int32))), (5, .int y9), (0, .ref (base + r0)), (1, .int x1_7)] dX12_laysCodes_115 rfl (by rw [ey15]; rfl) (by decide) rfl ?_
                refine g_goto X 29 dX12_laysCodes_118 (by decide) ?_
                cases hf
                exact g_sub [4, 5, 1, 2, 0] rfl (hc0 rfl)
              · have hf := zpos hq hf
                refine g_aload_n X 1 dX12_laysCodes_87 rfl ?_
                obtain ⟨v17, h16, hch16, hf⟩ := zc2_e hf
                refine g_callV X 0 (sX12_isOneOrder hch16) zf12 hk1 ydX12_isOneOrder w_ml_RX12_388 w_instanceMethod_X12_isOneOrder w_sel_X12_isOneOrder w_ini_RX12 w_code_X12_isOneOrder (by decide) rfl (st := []) rfl rfl (Nat.le_of_ble_eq_true rfl) dX12_laysCodes_88 ?_
                refine g_if_eq X 102 dX12_laysCodes_91 (by decide) (fun hq => ?_) (fun hq => ?_)
                · have hf := zpos hq hf
                  refine g_iconst X (v := 1) dX12_laysCodes_102 (by decide) ?_
                  refine g_goto X 107 dX12_laysCodes_103 (by decide) ?_
                  refine g_istore_n X [(3, .int ((1 : Int32))), (5, .int y9), (0, .ref (base + r0)), (1, .int x1_7), (2, .int x2_29), (4, .int x4_29)] dX12_laysCodes_107 (by decide) rfl ?_
                  refine g_iload_n X 4 dX12_laysCodes_108 rfl ?_
                  refine g_iconst X (v := 1) dX12_laysCodes_109 (by decide) ?_
                  refine g_iload X 1 dX12_laysCodes_110 rfl ?_
                  refine g_ishl X dX12_laysCodes_112 ?_
                  refine g_ior X dX12_laysCodes_113 ?_
                  refine g_topi (fun y18 ey18 => ?_)
                  have hf := zlet_n ey18 hf
                  refine g_istore_n X [(2, .int y18), (3, .int ((1 : Int32))), (5, .int y9), (0, .ref (base + r0)), (1, .int x1_7), (4, .int x4_29)] dX12_laysCodes_114 (by decide) rfl ?_
                  obtain ⟨y19, ey19⟩ : ∃ y : Int32, y = x4_29 + (1 : Int32) := ⟨_, rfl⟩
                  have hf := zlet_n ey19 hf
                  refine g_iinc X (j := 5) [(4, .int y19), (2, .int y18), (3, .int ((1 : Int32))), (5, .int y9), (0, .ref (base + r0)), (1, .int x1_7)] dX12_laysCodes_115 rfl (by rw [ey19]; rfl) (by decide) rfl ?_
                  refine g_goto X 29 dX12_laysCodes_118 (by decide) ?_
                  cases hf
                  exact g_sub [4, 5, 1, 2, 0] rfl (hc0 rfl)
                · have hf := zneg hq hf
                  refine g_iload_n X 3 dX12_laysCodes_94 rfl ?_
                  refine g_iconst X (v := 1) dX12_laysCodes_95 (by decide) ?_
                  refine g_iload X 0 dX12_laysCodes_96 rfl ?_
                  refine g_ishl X dX12_laysCodes_98 ?_
                  refine g_icmp_ge X 106 dX12_laysCodes_99 (by decide) (fun hq => ?_) (fun hq => ?_)
                  · have hf := zpos hq hf
                    refine g_iconst X (v := 0) dX12_laysCodes_106 (by decide) ?_
                    refine g_istore_n X [(3, .int ((0 : Int32))), (5, .int y9), (0, .ref (base + r0)), (1, .int x1_7), (2, .int x2_29), (4, .int x4_29)] dX12_laysCodes_107 (by decide) rfl ?_
                    refine g_iload_n X 4 dX12_laysCodes_108 rfl ?_
                    refine g_iconst X (v := 1) dX12_laysCodes_109 (by decide) ?_
                    refine g_iload X 1 dX12_laysCodes_110 rfl ?_
                    refine g_ishl X dX12_laysCodes_112 ?_
                    refine g_ior X dX12_laysCodes_113 ?_
                    refine g_topi (fun y20 ey20 => ?_)
                    have hf := zlet_n ey20 hf
                    refine g_istore_n X [(2, .int y20), (3, .int ((0 : Int32))), (5, .int y9), (0, .ref (base + r0)), (1, .int x1_7), (4, .int x4_29)] dX12_laysCodes_114 (by decide) rfl ?_
                    obtain ⟨y21, ey21⟩ : ∃ y : Int32, y = x4_29 + (1 : Int32) := ⟨_, rfl⟩
                    have hf := zlet_n ey21 hf
                    refine g_iinc X (j := 5) [(4, .int y21), (2, .int y20), (3, .int ((0 : Int32))), (5, .int y9), (0, .ref (base + r0)), (1, .int x1_7)] dX12_laysCodes_115 rfl (by rw [ey21]; rfl) (by decide) rfl ?_
                    refine g_goto X 29 dX12_laysCodes_118 (by decide) ?_
                    cases hf
                    exact g_sub [4, 5, 1, 2, 0] rfl (hc0 rfl)
                  · have hf := zneg hq hf
                    refine g_iconst X (v := 1) dX12_laysCodes_102 (by decide) ?_
                    refine g_goto X 107 dX12_laysCodes_103 (by decide) ?_
                    refine g_istore_n X [(3, .int ((1 : Int32))), (5, .int y9), (0, .ref (base + r0)), (1, .int x1_7), (2, .int x2_29), (4, .int x4_29)] dX12_laysCodes_107 (by decide) rfl ?_
                    refine g_iload_n X 4 dX12_laysCodes_108 rfl ?_
                    refine g_iconst X (v := 1) dX12_laysCodes_109 (by decide) ?_
                    refine g_iload X 1 dX12_laysCodes_110 rfl ?_
                    refine g_ishl X dX12_laysCodes_112 ?_
                    refine g_ior X dX12_laysCodes_113 ?_
                    refine g_topi (fun y22 ey22 => ?_)
                    have hf := zlet_n ey22 hf
                    refine g_istore_n X [(2, .int y22), (3, .int ((1 : Int32))), (5, .int y9), (0, .ref (base + r0)), (1, .int x1_7), (4, .int x4_29)] dX12_laysCodes_114 (by decide) rfl ?_
                    obtain ⟨y23, ey23⟩ : ∃ y : Int32, y = x4_29 + (1 : Int32) := ⟨_, rfl⟩
                    have hf := zlet_n ey23 hf
                    refine g_iinc X (j := 5) [(4, .int y23), (2, .int y22), (3, .int ((1 : Int32))), (5, .int y9), (0, .ref (base + r0)), (1, .int x1_7)] dX12_laysCodes_115 rfl (by rw [ey23]; rfl) (by decide) rfl ?_
                    refine g_goto X 29 dX12_laysCodes_118 (by decide) ?_
                    cases hf
                    exact g_sub [4, 5, 1, 2, 0] rfl (hc0 rfl)
      · obtain ⟨ee, x2_k29, x3_k29, x4_k29, h_k29⟩ := qq
        have hf : kX12_laysCodes_29 h r0 x1_7 ee x2_k29 x3_k29 x4_k29 h_k29 = some (e_7, q_7) := hf
        unfold kX12_laysCodes_29 at hf
        show zG p l e { frames := 1, cells := 0, slots := 0, locals := 20 } s m args below meth c (MQ below (zQ D cA base h hE none) args s 0 0 (zA base)) 6 D cA base h 121 [(0, .ref (base + r0)), (1, .int x1_7), (3, .int x3_k29)] [] h_k29
        refine g_iload_n X 2 dX12_laysCodes_121 rfl ?_
        refine g_if_ne X 128 dX12_laysCodes_122 (by decide) (fun hq => ?_) (fun hq => ?_)
        · have hf := zneg hq hf
          refine g_aload_n X 0 dX12_laysCodes_128 rfl ?_
          obtain ⟨r_24, hr_24, hf⟩ := zbd hf
          refine g_get X zf12 hk1 23 (by decide) w_f_RX12_33 rfl (zfv_r hr_24 rfl) dX12_laysCodes_129 ?_
          refine g_aload_n X 0 dX12_laysCodes_132 rfl ?_
          refine g_get X zf12 hk1 24 (by decide) w_f_RX12_397 rfl rfl dX12_laysCodes_133 ?_
          refine g_iload_n X 1 dX12_laysCodes_136 rfl ?_
          obtain ⟨hk25, hf⟩ := zite hf
          obtain ⟨hi26, hf⟩ := zite hf
          refine g_iast X hk25 hi26 dX12_laysCodes_137 ?_
          refine g_hp (fun h27 eh27 => ?_)
          have hf := zlet_n eh27 hf
          refine g_aload_n X 0 dX12_laysCodes_138 rfl ?_
          refine g_dup X dX12_laysCodes_139 rfl ?_
          refine g_get X zf12 hk1 24 (by decide) w_f_RX12_397 rfl rfl dX12_laysCodes_140 ?_
          refine g_iconst X (v := 1) dX12_laysCodes_143 (by decide) ?_
          refine g_iadd X dX12_laysCodes_144 ?_
          refine g_putI X zf12 hk1 24 (by decide) w_f_RX12_397 rfl rfl rfl dX12_laysCodes_145 ?_
          refine g_hp (fun h28 eh28 => ?_)
          have hf := zlet_n eh28 hf
          obtain ⟨y29, ey29⟩ : ∃ y : Int32, y = x1_7 + (1 : Int32) := ⟨_, rfl⟩
          have hf := zlet_n ey29 hf
          refine g_iinc X (j := 1) [(1, .int y29), (0, .ref (base + r0)), (3, .int x3_k29)] dX12_laysCodes_148 rfl (by rw [ey29]; rfl) (by decide) rfl ?_
          refine g_goto X 7 dX12_laysCodes_151 (by decide) ?_
          cases hf
          exact g_sub [1, 0] rfl (hc0 rfl)
        · have hf := zpos hq hf
          refine g_goto X 148 dX12_laysCodes_125 (by decide) ?_
          obtain ⟨y30, ey30⟩ : ∃ y : Int32, y = x1_7 + (1 : Int32) := ⟨_, rfl⟩
          have hf := zlet_n ey30 hf
          refine g_iinc X (j := 1) [(1, .int y30), (0, .ref (base + r0)), (3, .int x3_k29)] dX12_laysCodes_148 rfl (by rw [ey30]; rfl) (by decide) rfl ?_
          refine g_goto X 7 dX12_laysCodes_151 (by decide) ?_
          cases hf
          exact g_sub [1, 0] rfl (hc0 rfl)
  · obtain ⟨ee, x1_k7, h_k7⟩ := qq
    have hf : kX12_laysCodes_7 h ee x1_k7 h_k7 = some hE := hf
    unfold kX12_laysCodes_7 at hf
    show zG p l e { frames := 1, cells := 0, slots := 0, locals := 20 } s m args below meth c (MQ below (zQ D cA base h hE none) args s 0 0 (zA base)) 6 D cA base h 154 [] [] h_k7
    cases hf
    exact g_vret X hr dX12_laysCodes_154

set_option maxHeartbeats 4000000 in
set_option maxRecDepth 100000 in
theorem sX12_puts {l : Launch} {D : va_G} {cA : Nat → ClassId} {base : Nat} {sA : Nat → Nat} {r0 : Nat} {x1 : Int32} {h hE : Zh} (hf : fX12_puts r0 x1 h = some hE) : zC l yX12_puts cX12_puts 5 none 1 20 D cA base sA [.ref (base + r0), .int x1] h none hE := by
  refine g_entry RX12 (by decide) rfl (Nat.le_of_ble_eq_true rfl) ?_
  intro p e s m args below meth c X hr
  unfold fX12_puts at hf
  have hf := zlet_n (x := h) rfl hf
  show zG p l e { frames := 1, cells := 0, slots := 0, locals := 20 } s m args below meth c (MQ below (zQ D cA base h hE none) args s 0 0 (zA base)) 5 D cA base h 0 [(0, .ref (base + r0)), (1, .int x1)] [] h
  refine g_aload_n X 0 dX12_puts_0 rfl ?_
  obtain ⟨hk1, hf⟩ := zite hf
  obtain ⟨r_2, hr_2, hf⟩ := zbd hf
  refine g_get X zf12 hk1 3 (by decide) w_f_RX12_329 rfl (zfv_r hr_2 rfl) dX12_puts_1 ?_
  obtain ⟨hk3, hf⟩ := zite hf
  obtain ⟨v5, h4, hch4, hf⟩ := zc2_e hf
  refine g_callV X 0 (sX11_tilts hch4) zf11 hk3 ydX11_tilts w_ml_RX12_354 w_instanceMethod_X11_tilts w_sel_X11_tilts w_ini_RX11 w_code_X11_tilts (by decide) rfl (st := []) rfl rfl (Nat.le_of_ble_eq_true rfl) dX12_puts_4 ?_
  refine g_istore_n X [(2, .int v5), (0, .ref (base + r0)), (1, .int x1)] dX12_puts_7 (by decide) rfl ?_
  refine g_aload_n X 1 dX12_puts_8 rfl ?_
  refine g_get X zf12 hk1 22 (by decide) w_f_RX12_400 rfl rfl dX12_puts_9 ?_
  refine g_topi (fun y6 ey6 => ?_)
  have hf := zlet_n ey6 hf
  refine g_istore_n X [(3, .int y6), (2, .int v5), (0, .ref (base + r0)), (1, .int x1)] dX12_puts_12 (by decide) rfl ?_
  refine g_sub [2, 3, 1, 0] rfl ?_
  obtain ⟨qq, hlp, hf⟩ := zbd hf
  refine lp_snd (body := (fun q : Int32 × Zh => bX12_puts_13 h r0 x1 v5 q.1 q.2)) (P := (fun q : Int32 × Zh => zG p l e { frames := 1, cells := 0, slots := 0, locals := 20 } s m args below meth c (MQ below (zQ D cA base h hE none) args s 0 0 (zA base)) 5 D cA base h 13 [(0, .ref (base + r0)), (1, .int x1), (2, .int v5), (3, .int q.1)] [] q.2)) (E := (fun (en : Nat) (q : Int32 × Zh) => zG p l e { frames := 1, cells := 0, slots := 0, locals := 20 } s m args below meth c (MQ below (zQ D cA base h hE none) args s 0 0 (zA base)) 5 D cA base h 71 [(0, .ref (base + r0)), (1, .int x1), (2, .int v5), (3, .int q.1)] [] q.2)) ?_ zB (y6, h4) qq.1 qq.2 hlp ?_
  · intro q e_13 q_13 hf hc0 hc1
    obtain ⟨x3_13, h_13⟩ := q
    have hf : bX12_puts_13 h r0 x1 v5 x3_13 h_13 = some (e_13, q_13) := hf
    unfold bX12_puts_13 at hf
    show zG p l e { frames := 1, cells := 0, slots := 0, locals := 20 } s m args below meth c (MQ below (zQ D cA base h hE none) args s 0 0 (zA base)) 5 D cA base h 13 [(0, .ref (base + r0)), (1, .int x1), (2, .int v5), (3, .int x3_13)] [] h_13
    refine g_iload_n X 3 dX12_puts_13 rfl ?_
    refine g_if_le X 71 dX12_puts_14 (by decide) (fun hq => ?_) (fun hq => ?_)
    · have hf := zpos hq hf
      cases hf
      have hc1 := hc1 (by decide)
      exact g_sub [0, 1, 2, 3] rfl hc1
    · have hf := zneg hq hf
      refine g_aload_n X 0 dX12_puts_17 rfl ?_
      obtain ⟨r_7, hr_7, hf⟩ := zbd hf
      refine g_get X zf12 hk1 21 (by decide) w_f_RX12_30 rfl (zfv_r hr_7 rfl) dX12_puts_18 ?_
      refine g_iload_n X 3 dX12_puts_21 rfl ?_
      refine g_iconst X (v := 1) dX12_puts_22 (by decide) ?_
      refine g_isub X dX12_puts_23 ?_
      obtain ⟨hk8, hf⟩ := zite hf
      obtain ⟨hi9, hf⟩ := zite hf
      refine g_iald X hk8 hi9 dX12_puts_24 ?_
      refine g_iload_n X 1 dX12_puts_25 rfl ?_
      refine g_icmp_le X 71 dX12_puts_26 (by decide) (fun hq => ?_) (fun hq => ?_)
      · have hf := zpos hq hf
        cases hf
        have hc1 := hc1 (by decide)
        exact g_sub [0, 1, 2, 3] rfl hc1
      · have hf := zneg hq hf
        refine g_iconst X (v := 1) dX12_puts_29 (by decide) ?_
        refine g_istore X [(4, .int ((1 : Int32))), (0, .ref (base + r0)), (1, .int x1), (2, .int v5), (3, .int x3_13)] dX12_puts_30 (by decide) rfl ?_
        refine g_sub [1, 2, 3, 4, 0] rfl ?_
        obtain ⟨qq, hlp, hf⟩ := zbd hf
        refine lp_snd (body := (fun q : Int32 × Zh => bX12_puts_32 h r0 v5 x3_13 q.1 q.2)) (P := (fun q : Int32 × Zh => zG p l e { frames := 1, cells := 0, slots := 0, locals := 20 } s m args below meth c (MQ below (zQ D cA base h hE none) args s 0 0 (zA base)) 5 D cA base h 32 [(0, .ref (base + r0)), (1, .int x1), (2, .int v5), (3, .int x3_13), (4, .int q.1)] [] q.2)) (E := (fun (en : Nat) (q : Int32 × Zh) => zG p l e { frames := 1, cells := 0, slots := 0, locals := 20 } s m args below meth c (MQ below (zQ D cA base h hE none) args s 0 0 (zA base)) 5 D cA base h 64 [(0, .ref (base + r0)), (1, .int x1), (2, .int v5), (3, .int x3_13)] [] q.2)) ?_ zB ((1 : Int32), h_13) qq.1 qq.2 hlp ?_
        · intro q e_32 q_32 hf hc0 hc1
          obtain ⟨x4_32, h_32⟩ := q
          have hf : bX12_puts_32 h r0 v5 x3_13 x4_32 h_32 = some (e_32, q_32) := hf
          unfold bX12_puts_32 at hf
          show zG p l e { frames := 1, cells := 0, slots := 0, locals := 20 } s m args below meth c (MQ below (zQ D cA base h hE none) args s 0 0 (zA base)) 5 D cA base h 32 [(0, .ref (base + r0)), (1, .int x1), (2, .int v5), (3, .int x3_13), (4, .int x4_32)] [] h_32
          refine g_iload X 4 dX12_puts_32 rfl ?_
          refine g_iload_n X 2 dX12_puts_34 rfl ?_
          refine g_icmp_gt X 64 dX12_puts_35 (by decide) (fun hq => ?_) (fun hq => ?_)
          · have hf := zpos hq hf
            cases hf
            have hc1 := hc1 (by decide)
            exact g_sub [0, 1, 2, 3] rfl hc1
          · have hf := zneg hq hf
            refine g_aload_n X 0 dX12_puts_38 rfl ?_
            obtain ⟨r_10, hr_10, hf⟩ := zbd hf
            refine g_get X zf12 hk1 21 (by decide) w_f_RX12_30 rfl (zfv_r hr_10 rfl) dX12_puts_39 ?_
            refine g_iload_n X 3 dX12_puts_42 rfl ?_
            refine g_iload X 4 dX12_puts_43 rfl ?_
            refine g_isub X dX12_puts_45 ?_
            refine g_iload_n X 2 dX12_puts_46 rfl ?_
            refine g_iadd X dX12_puts_47 ?_
            refine g_aload_n X 0 dX12_puts_48 rfl ?_
            obtain ⟨r_11, hr_11, hf⟩ := zbd hf
            refine g_get X zf12 hk1 21 (by decide) w_f_RX12_30 rfl (zfv_r hr_11 rfl) dX12_puts_49 ?_
            refine g_iload_n X 3 dX12_puts_52 rfl ?_
            refine g_iload X 4 dX12_puts_53 rfl ?_
            refine g_isub X dX12_puts_55 ?_
            obtain ⟨hk12, hf⟩ := zite hf
            obtain ⟨hi13, hf⟩ := zite hf
            refine g_iald X hk12 hi13 dX12_puts_56 ?_
            obtain ⟨hk14, hf⟩ := zite hf
            obtain ⟨hi15, hf⟩ := zite hf
            refine g_iast X hk14 hi15 dX12_puts_57 ?_
            refine g_hp (fun h16 eh16 => ?_)
            have hf := zlet_n eh16 hf
            obtain ⟨y17, ey17⟩ : ∃ y : Int32, y = x4_32 + (1 : Int32) := ⟨_, rfl⟩
            have hf := zlet_n ey17 hf
            refine g_iinc X (j := 4) [(4, .int y17), (0, .ref (base + r0)), (1, .int x1), (2, .int v5), (3, .int x3_13)] dX12_puts_58 rfl (by rw [ey17]; rfl) (by decide) rfl ?_
            refine g_goto X 32 dX12_puts_61 (by decide) ?_
            cases hf
            exact g_sub [1, 2, 3, 4, 0] rfl (hc0 rfl)
        · obtain ⟨ee, x4_k32, h_k32⟩ := qq
          have hf : kX12_puts_32 h r0 x1 v5 x3_13 ee x4_k32 h_k32 = some (e_13, q_13) := hf
          unfold kX12_puts_32 at hf
          show zG p l e { frames := 1, cells := 0, slots := 0, locals := 20 } s m args below meth c (MQ below (zQ D cA base h hE none) args s 0 0 (zA base)) 5 D cA base h 64 [(0, .ref (base + r0)), (1, .int x1), (2, .int v5), (3, .int x3_13)] [] h_k32
          refine g_iload_n X 3 dX12_puts_64 rfl ?_
          refine g_iload_n X 2 dX12_puts_65 rfl ?_
          refine g_isub X dX12_puts_66 ?_
          refine g_topi (fun y18 ey18 => ?_)
          have hf := zlet_n ey18 hf
          refine g_istore_n X [(3, .int y18), (0, .ref (base + r0)), (1, .int x1), (2, .int v5)] dX12_puts_67 (by decide) rfl ?_
          refine g_goto X 13 dX12_puts_68 (by decide) ?_
          cases hf
          exact g_sub [1, 2, 3, 0] rfl (hc0 rfl)
  · obtain ⟨ee, x3_k13, h_k13⟩ := qq
    have hf : kX12_puts_13 h r0 x1 v5 ee x3_k13 h_k13 = some hE := hf
    unfold kX12_puts_13 at hf
    show zG p l e { frames := 1, cells := 0, slots := 0, locals := 20 } s m args below meth c (MQ below (zQ D cA base h hE none) args s 0 0 (zA base)) 5 D cA base h 71 [(0, .ref (base + r0)), (1, .int x1), (2, .int v5), (3, .int x3_k13)] [] h_k13
    refine g_iconst X (v := 0) dX12_puts_71 (by decide) ?_
    refine g_istore X [(4, .int ((0 : Int32))), (0, .ref (base + r0)), (1, .int x1), (2, .int v5), (3, .int x3_k13)] dX12_puts_72 (by decide) rfl ?_
    refine g_sub [1, 2, 3, 4, 0] rfl ?_
    obtain ⟨qq, hlp, hf⟩ := zbd hf
    refine lp_snd (body := (fun q : Int32 × Zh => bX12_puts_74 h r0 x1 v5 x3_k13 q.1 q.2)) (P := (fun q : Int32 × Zh => zG p l e { frames := 1, cells := 0, slots := 0, locals := 20 } s m args below meth c (MQ below (zQ D cA base h hE none) args s 0 0 (zA base)) 5 D cA base h 74 [(0, .ref (base + r0)), (1, .int x1), (2, .int v5), (3, .int x3_k13), (4, .int q.1)] [] q.2)) (E := (fun (en : Nat) (q : Int32 × Zh) => zG p l e { frames := 1, cells := 0, slots := 0, locals := 20 } s m args below meth c (MQ below (zQ D cA base h hE none) args s 0 0 (zA base)) 5 D cA base h 99 [(0, .ref (base + r0)), (2, .int v5)] [] q.2)) ?_ zB ((0 : Int32), h_k13) qq.1 qq.2 hlp ?_
    · intro q e_74 q_74 hf hc0 hc1
      obtain ⟨x4_74, h_74⟩ := q
      have hf : bX12_puts_74 h r0 x1 v5 x3_k13 x4_74 h_74 = some (e_74, q_74) := hf
      unfold bX12_puts_74 at hf
      show zG p l e { frames := 1, cells := 0, slots := 0, locals := 20 } s m args below meth c (MQ below (zQ D cA base h hE none) args s 0 0 (zA base)) 5 D cA base h 74 [(0, .ref (base + r0)), (1, .int x1), (2, .int v5), (3, .int x3_k13), (4, .int x4_74)] [] h_74
      refine g_iload X 4 dX12_puts_74 rfl ?_
      refine g_iload_n X 2 dX12_puts_76 rfl ?_
      refine g_icmp_ge X 99 dX12_puts_77 (by decide) (fun hq => ?_) (fun hq => ?_)
      · have hf := zpos hq hf
        cases hf
        have hc1 := hc1 (by decide)
        exact g_sub [0, 2] rfl hc1
      · have hf := zneg hq hf
        refine g_aload_n X 0 dX12_puts_80 rfl ?_
        obtain ⟨r_19, hr_19, hf⟩ := zbd hf
        refine g_get X zf12 hk1 21 (by decide) w_f_RX12_30 rfl (zfv_r hr_19 rfl) dX12_puts_81 ?_
        refine g_iload_n X 3 dX12_puts_84 rfl ?_
        refine g_iload X 4 dX12_puts_85 rfl ?_
        refine g_iadd X dX12_puts_87 ?_
        refine g_iload_n X 1 dX12_puts_88 rfl ?_
        refine g_iload X 4 dX12_puts_89 rfl ?_
        refine g_iadd X dX12_puts_91 ?_
        obtain ⟨hk20, hf⟩ := zite hf
        obtain ⟨hi21, hf⟩ := zite hf
        refine g_iast X hk20 hi21 dX12_puts_92 ?_
        refine g_hp (fun h22 eh22 => ?_)
        have hf := zlet_n eh22 hf
        obtain ⟨y23, ey23⟩ : ∃ y : Int32, y = x4_74 + (1 : Int32) := ⟨_, rfl⟩
        have hf := zlet_n ey23 hf
        refine g_iinc X (j := 4) [(4, .int y23), (0, .ref (base + r0)), (1, .int x1), (2, .int v5), (3, .int x3_k13)] dX12_puts_93 rfl (by rw [ey23]; rfl) (by decide) rfl ?_
        refine g_goto X 74 dX12_puts_96 (by decide) ?_
        cases hf
        exact g_sub [1, 2, 3, 4, 0] rfl (hc0 rfl)
    · obtain ⟨ee, x4_k74, h_k74⟩ := qq
      have hf : kX12_puts_74 h r0 v5 ee x4_k74 h_k74 = some hE := hf
      unfold kX12_puts_74 at hf
      show zG p l e { frames := 1, cells := 0, slots := 0, locals := 20 } s m args below meth c (MQ below (zQ D cA base h hE none) args s 0 0 (zA base)) 5 D cA base h 99 [(0, .ref (base + r0)), (2, .int v5)] [] h_k74
      refine g_aload_n X 0 dX12_puts_99 rfl ?_
      refine g_dup X dX12_puts_100 rfl ?_
      refine g_get X zf12 hk1 22 (by decide) w_f_RX12_400 rfl rfl dX12_puts_101 ?_
      refine g_iload_n X 1 dX12_puts_104 rfl ?_
      refine g_iadd X dX12_puts_105 ?_
      refine g_putI X zf12 hk1 22 (by decide) w_f_RX12_400 rfl rfl rfl dX12_puts_106 ?_
      refine g_hp (fun h24 eh24 => ?_)
      have hf := zlet_n eh24 hf
      cases hf
      exact g_vret X hr dX12_puts_109

set_option maxHeartbeats 4000000 in
set_option maxRecDepth 100000 in
theorem sX12_fitsOf {l : Launch} {D : va_G} {cA : Nat → ClassId} {base : Nat} {sA : Nat → Nat} {r0 : Nat} {x1 : Int32} {h hE : Zh} (hf : fX12_fitsOf r0 x1 h = some hE) : zC l yX12_fitsOf cX12_fitsOf 4 none 2 44 D cA base sA [.ref (base + r0), .int x1] h none hE := by
  refine g_entry RX12 (by decide) rfl (Nat.le_of_ble_eq_true rfl) ?_
  intro p e s m args below meth c X hr
  unfold fX12_fitsOf at hf
  have hf := zlet_n (x := h) rfl hf
  show zG p l e { frames := 2, cells := 0, slots := 0, locals := 44 } s m args below meth c (MQ below (zQ D cA base h hE none) args s 0 0 (zA base)) 4 D cA base h 0 [(0, .ref (base + r0)), (1, .int x1)] [] h
  refine g_aload_n X 0 dX12_fitsOf_0 rfl ?_
  refine g_iconst X (v := 0) dX12_fitsOf_1 (by decide) ?_
  obtain ⟨hk1, hf⟩ := zite hf
  refine g_putI X zf12 hk1 22 (by decide) w_f_RX12_400 rfl rfl rfl dX12_fitsOf_2 ?_
  refine g_hp (fun h2 eh2 => ?_)
  have hf := zlet_n eh2 hf
  refine g_iconst X (v := 0) dX12_fitsOf_5 (by decide) ?_
  refine g_istore_n X [(2, .int ((0 : Int32))), (0, .ref (base + r0)), (1, .int x1)] dX12_fitsOf_6 (by decide) rfl ?_
  refine g_sub [1, 2, 0] rfl ?_
  obtain ⟨qq, hlp, hf⟩ := zbd hf
  refine lp_snd (body := (fun q : Int32 × Zh => bX12_fitsOf_7 h r0 x1 q.1 q.2)) (P := (fun q : Int32 × Zh => zG p l e { frames := 2, cells := 0, slots := 0, locals := 44 } s m args below meth c (MQ below (zQ D cA base h hE none) args s 0 0 (zA base)) 4 D cA base h 7 [(0, .ref (base + r0)), (1, .int x1), (2, .int q.1)] [] q.2)) (E := (fun (en : Nat) (q : Int32 × Zh) => zG p l e { frames := 2, cells := 0, slots := 0, locals := 44 } s m args below meth c (MQ below (zQ D cA base h hE none) args s 0 0 (zA base)) 4 D cA base h 95 [] [] q.2)) ?_ zB ((0 : Int32), h2) qq.1 qq.2 hlp ?_
  · intro q e_7 q_7 hf hc0 hc1
    obtain ⟨x2_7, h_7⟩ := q
    have hf : bX12_fitsOf_7 h r0 x1 x2_7 h_7 = some (e_7, q_7) := hf
    unfold bX12_fitsOf_7 at hf
    show zG p l e { frames := 2, cells := 0, slots := 0, locals := 44 } s m args below meth c (MQ below (zQ D cA base h hE none) args s 0 0 (zA base)) 4 D cA base h 7 [(0, .ref (base + r0)), (1, .int x1), (2, .int x2_7)] [] h_7
    refine g_iload_n X 2 dX12_fitsOf_7 rfl ?_
    refine g_aload_n X 0 dX12_fitsOf_8 rfl ?_
    refine g_get X zf12 hk1 24 (by decide) w_f_RX12_397 rfl rfl dX12_fitsOf_9 ?_
    refine g_icmp_ge X 95 dX12_fitsOf_12 (by decide) (fun hq => ?_) (fun hq => ?_)
    · have hf := zpos hq hf
      cases hf
      have hc1 := hc1 (by decide)
      exact g_sub [] rfl hc1
    · have hf := zneg hq hf
      refine g_iconst X (v := 0) dX12_fitsOf_15 (by decide) ?_
      refine g_istore_n X [(3, .int ((0 : Int32))), (0, .ref (base + r0)), (1, .int x1), (2, .int x2_7)] dX12_fitsOf_16 (by decide) rfl ?_
      refine g_sub [1, 2, 3, 0] rfl ?_
      obtain ⟨qq, hlp, hf⟩ := zbd hf
      refine lp_snd (body := (fun q : Int32 × Zh => bX12_fitsOf_17 h r0 x1 x2_7 q.1 q.2)) (P := (fun q : Int32 × Zh => zG p l e { frames := 2, cells := 0, slots := 0, locals := 44 } s m args below meth c (MQ below (zQ D cA base h hE none) args s 0 0 (zA base)) 4 D cA base h 17 [(0, .ref (base + r0)), (1, .int x1), (2, .int x2_7), (3, .int q.1)] [] q.2)) (E := (fun (en : Nat) (q : Int32 × Zh) => zG p l e { frames := 2, cells := 0, slots := 0, locals := 44 } s m args below meth c (MQ below (zQ D cA base h hE none) args s 0 0 (zA base)) 4 D cA base h 68 [(0, .ref (base + r0)), (1, .int x1), (2, .int x2_7)] [] q.2)) ?_ zB ((0 : Int32), h_7) qq.1 qq.2 hlp ?_
      · intro q e_17 q_17 hf hc0 hc1
        obtain ⟨x3_17, h_17⟩ := q
        have hf : bX12_fitsOf_17 h r0 x1 x2_7 x3_17 h_17 = some (e_17, q_17) := hf
        unfold bX12_fitsOf_17 at hf
        show zG p l e { frames := 2, cells := 0, slots := 0, locals := 44 } s m args below meth c (MQ below (zQ D cA base h hE none) args s 0 0 (zA base)) 4 D cA base h 17 [(0, .ref (base + r0)), (1, .int x1), (2, .int x2_7), (3, .int x3_17)] [] h_17
        refine g_iload_n X 3 dX12_fitsOf_17 rfl ?_
        refine g_aload_n X 0 dX12_fitsOf_18 rfl ?_
        obtain ⟨r_3, hr_3, hf⟩ := zbd hf
        refine g_get X zf12 hk1 3 (by decide) w_f_RX12_329 rfl (zfv_r hr_3 rfl) dX12_fitsOf_19 ?_
        obtain ⟨hk4, hf⟩ := zite hf
        refine g_getN X zf11 hk4 4 (by decide) w_fn_RX12_257 rfl rfl dX12_fitsOf_22 ?_
        refine g_icmp_ge X 68 dX12_fitsOf_25 (by decide) (fun hq => ?_) (fun hq => ?_)
        · have hf := zpos hq hf
          cases hf
          have hc1 := hc1 (by decide)
          exact g_sub [0, 1, 2] rfl hc1
        · have hf := zneg hq hf
          refine g_aload_n X 0 dX12_fitsOf_28 rfl ?_
          obtain ⟨r_5, hr_5, hf⟩ := zbd hf
          refine g_get X zf12 hk1 19 (by decide) w_f_RX12_24 rfl (zfv_r hr_5 rfl) dX12_fitsOf_29 ?_
          refine g_iload_n X 3 dX12_fitsOf_32 rfl ?_
          refine g_aload_n X 0 dX12_fitsOf_33 rfl ?_
          refine g_iload_n X 1 dX12_fitsOf_34 rfl ?_
          refine g_aload_n X 0 dX12_fitsOf_35 rfl ?_
          obtain ⟨r_6, hr_6, hf⟩ := zbd hf
          refine g_get X zf12 hk1 23 (by decide) w_f_RX12_33 rfl (zfv_r hr_6 rfl) dX12_fitsOf_36 ?_
          refine g_iload_n X 2 dX12_fitsOf_39 rfl ?_
          obtain ⟨hk7, hf⟩ := zite hf
          obtain ⟨hi8, hf⟩ := zite hf
          refine g_iald X hk7 hi8 dX12_fitsOf_40 ?_
          refine g_iconst X (v := 3) dX12_fitsOf_41 (by decide) ?_
          refine g_aload_n X 0 dX12_fitsOf_42 rfl ?_
          obtain ⟨r_9, hr_9, hf⟩ := zbd hf
          refine g_get X zf12 hk1 3 (by decide) w_f_RX12_329 rfl (zfv_r hr_9 rfl) dX12_fitsOf_43 ?_
          obtain ⟨hk10, hf⟩ := zite hf
          refine g_getN X zf11 hk10 4 (by decide) w_fn_RX12_257 rfl rfl dX12_fitsOf_46 ?_
          refine g_iconst X (v := 1) dX12_fitsOf_49 (by decide) ?_
          refine g_isub X dX12_fitsOf_50 ?_
          refine g_iload_n X 3 dX12_fitsOf_51 rfl ?_
          refine g_isub X dX12_fitsOf_52 ?_
          refine g_imul X dX12_fitsOf_53 ?_
          refine g_ishr X dX12_fitsOf_54 ?_
          refine g_bipush X (v := 7) dX12_fitsOf_55 (by decide) ?_
          refine g_iand X dX12_fitsOf_57 ?_
          obtain ⟨v12, h11, hch11, hf⟩ := zc2_e hf
          refine g_callV X 2 (sX12_cardOf hch11) zf12 hk1 ydX12_cardOf w_ml_RX12_366 w_instanceMethod_X12_cardOf w_sel_X12_cardOf w_ini_RX12 w_code_X12_cardOf (by decide) rfl (st := [.int x3_17, .ref (base + r_5)]) rfl rfl (Nat.le_of_ble_eq_true rfl) dX12_fitsOf_58 ?_
          obtain ⟨hk13, hf⟩ := zite hf
          obtain ⟨hi14, hf⟩ := zite hf
          refine g_iast X hk13 hi14 dX12_fitsOf_61 ?_
          refine g_hp (fun h15 eh15 => ?_)
          have hf := zlet_n eh15 hf
          obtain ⟨y16, ey16⟩ : ∃ y : Int32, y = x3_17 + (1 : Int32) := ⟨_, rfl⟩
          have hf := zlet_n ey16 hf
          refine g_iinc X (j := 3) [(3, .int y16), (0, .ref (base + r0)), (1, .int x1), (2, .int x2_7)] dX12_fitsOf_62 rfl (by rw [ey16]; rfl) (by decide) rfl ?_
          refine g_goto X 17 dX12_fitsOf_65 (by decide) ?_
          cases hf
          exact g_sub [1, 2, 3, 0] rfl (hc0 rfl)
      · obtain ⟨ee, x3_k17, h_k17⟩ := qq
        have hf : kX12_fitsOf_17 h r0 x1 x2_7 ee x3_k17 h_k17 = some (e_7, q_7) := hf
        unfold kX12_fitsOf_17 at hf
        show zG p l e { frames := 2, cells := 0, slots := 0, locals := 44 } s m args below meth c (MQ below (zQ D cA base h hE none) args s 0 0 (zA base)) 4 D cA base h 68 [(0, .ref (base + r0)), (1, .int x1), (2, .int x2_7)] [] h_k17
        refine g_aload_n X 0 dX12_fitsOf_68 rfl ?_
        refine g_aload_n X 0 dX12_fitsOf_69 rfl ?_
        refine g_aload_n X 0 dX12_fitsOf_70 rfl ?_
        obtain ⟨r_17, hr_17, hf⟩ := zbd hf
        refine g_get X zf12 hk1 19 (by decide) w_f_RX12_24 rfl (zfv_r hr_17 rfl) dX12_fitsOf_71 ?_
        refine g_iconst X (v := 0) dX12_fitsOf_74 (by decide) ?_
        obtain ⟨v19, h18, hch18, hf⟩ := zc2_e hf
        refine g_callV X 2 (sX12_rowNumber hch18) zf12 hk1 ydX12_rowNumber w_ml_RX12_351 w_instanceMethod_X12_rowNumber w_sel_X12_rowNumber w_ini_RX12 w_code_X12_rowNumber (by decide) rfl (st := [.ref (base + r0)]) rfl rfl (Nat.le_of_ble_eq_true rfl) dX12_fitsOf_75 ?_
        refine g_aload_n X 0 dX12_fitsOf_78 rfl ?_
        obtain ⟨r_20, hr_20, hf⟩ := zbd hf
        refine g_get X zf12 hk1 3 (by decide) w_f_RX12_329 rfl (zfv_r hr_20 rfl) dX12_fitsOf_79 ?_
        obtain ⟨hk21, hf⟩ := zite hf
        obtain ⟨v23, h22, hch22, hf⟩ := zc2_e hf
        refine g_callV X 0 (sX11_tilts hch22) zf11 hk21 ydX11_tilts w_ml_RX12_354 w_instanceMethod_X11_tilts w_sel_X11_tilts w_ini_RX11 w_code_X11_tilts (by decide) rfl (st := [.int v19, .ref (base + r0)]) rfl rfl (Nat.le_of_ble_eq_true rfl) dX12_fitsOf_82 ?_
        refine g_imul X dX12_fitsOf_85 ?_
        obtain ⟨h24, hch24, hf⟩ := zbd hf
        refine g_callV X 1 (sX12_puts hch24) zf12 hk1 ydX12_puts w_ml_RX12_403 w_instanceMethod_X12_puts w_sel_X12_puts w_ini_RX12 w_code_X12_puts (by decide) rfl (st := []) rfl rfl (Nat.le_of_ble_eq_true rfl) dX12_fitsOf_86 ?_
        obtain ⟨y25, ey25⟩ : ∃ y : Int32, y = x2_7 + (1 : Int32) := ⟨_, rfl⟩
        have hf := zlet_n ey25 hf
        refine g_iinc X (j := 2) [(2, .int y25), (0, .ref (base + r0)), (1, .int x1)] dX12_fitsOf_89 rfl (by rw [ey25]; rfl) (by decide) rfl ?_
        refine g_goto X 7 dX12_fitsOf_92 (by decide) ?_
        cases hf
        exact g_sub [1, 2, 0] rfl (hc0 rfl)
  · obtain ⟨ee, x2_k7, h_k7⟩ := qq
    have hf : kX12_fitsOf_7 h ee x2_k7 h_k7 = some hE := hf
    unfold kX12_fitsOf_7 at hf
    show zG p l e { frames := 2, cells := 0, slots := 0, locals := 44 } s m args below meth c (MQ below (zQ D cA base h hE none) args s 0 0 (zA base)) 4 D cA base h 95 [] [] h_k7
    cases hf
    exact g_vret X hr dX12_fitsOf_95

set_option maxHeartbeats 4000000 in
set_option maxRecDepth 100000 in
theorem sX12_sorts {l : Launch} {D : va_G} {cA : Nat → ClassId} {base : Nat} {sA : Nat → Nat} {r0 : Nat} {x1 : Int32} {h hE : Zh} (hf : fX12_sorts r0 x1 h = some hE) : zC l yX12_sorts cX12_sorts 5 none 1 22 D cA base sA [.ref (base + r0), .int x1] h none hE := by
  refine g_entry RX12 (by decide) rfl (Nat.le_of_ble_eq_true rfl) ?_
  intro p e s m args below meth c X hr
  unfold fX12_sorts at hf
  have hf := zlet_n (x := h) rfl hf
  show zG p l e { frames := 1, cells := 0, slots := 0, locals := 22 } s m args below meth c (MQ below (zQ D cA base h hE none) args s 0 0 (zA base)) 5 D cA base h 0 [(0, .ref (base + r0)), (1, .int x1)] [] h
  refine g_iconst X (v := 0) dX12_sorts_0 (by decide) ?_
  refine g_istore_n X [(2, .int ((0 : Int32))), (0, .ref (base + r0)), (1, .int x1)] dX12_sorts_1 (by decide) rfl ?_
  refine g_sub [1, 2, 0] rfl ?_
  obtain ⟨qq, hlp, hf⟩ := zbd hf
  refine lp_snd (body := (fun q : Int32 × Zh => bX12_sorts_2 h r0 x1 q.1 q.2)) (P := (fun q : Int32 × Zh => zG p l e { frames := 1, cells := 0, slots := 0, locals := 22 } s m args below meth c (MQ below (zQ D cA base h hE none) args s 0 0 (zA base)) 5 D cA base h 2 [(0, .ref (base + r0)), (1, .int x1), (2, .int q.1)] [] q.2)) (E := (fun (en : Nat) (q : Int32 × Zh) => zG p l e { frames := 1, cells := 0, slots := 0, locals := 22 } s m args below meth c (MQ below (zQ D cA base h hE none) args s 0 0 (zA base)) 5 D cA base h 74 [] [] q.2)) ?_ zB ((0 : Int32), h) qq.1 qq.2 hlp ?_
  · intro q e_2 q_2 hf hc0 hc1
    obtain ⟨x2_2, h_2⟩ := q
    have hf : bX12_sorts_2 h r0 x1 x2_2 h_2 = some (e_2, q_2) := hf
    unfold bX12_sorts_2 at hf
    show zG p l e { frames := 1, cells := 0, slots := 0, locals := 22 } s m args below meth c (MQ below (zQ D cA base h hE none) args s 0 0 (zA base)) 5 D cA base h 2 [(0, .ref (base + r0)), (1, .int x1), (2, .int x2_2)] [] h_2
    refine g_iload_n X 2 dX12_sorts_2 rfl ?_
    refine g_aload_n X 0 dX12_sorts_3 rfl ?_
    obtain ⟨hk1, hf⟩ := zite hf
    obtain ⟨r_2, hr_2, hf⟩ := zbd hf
    refine g_get X zf12 hk1 3 (by decide) w_f_RX12_329 rfl (zfv_r hr_2 rfl) dX12_sorts_4 ?_
    obtain ⟨hk3, hf⟩ := zite hf
    refine g_getN X zf11 hk3 2 (by decide) w_fn_RX12_232 rfl rfl dX12_sorts_7 ?_
    refine g_icmp_ge X 74 dX12_sorts_10 (by decide) (fun hq => ?_) (fun hq => ?_)
    · have hf := zpos hq hf
      cases hf
      have hc1 := hc1 (by decide)
      exact g_sub [] rfl hc1
    · have hf := zneg hq hf
      refine g_iload_n X 2 dX12_sorts_13 rfl ?_
      refine g_istore_n X [(3, .int x2_2), (0, .ref (base + r0)), (1, .int x1), (2, .int x2_2)] dX12_sorts_14 (by decide) rfl ?_
      refine g_aload_n X 1 dX12_sorts_15 rfl ?_
      refine g_iload_n X 2 dX12_sorts_16 rfl ?_
      refine g_iload_n X 3 dX12_sorts_17 rfl ?_
      obtain ⟨v5, h4, hch4, hf⟩ := zc2_e hf
      refine g_callV X 2 (sX12_cardOf hch4) zf12 hk1 ydX12_cardOf w_ml_RX12_366 w_instanceMethod_X12_cardOf w_sel_X12_cardOf w_ini_RX12 w_code_X12_cardOf (by decide) rfl (st := []) rfl rfl (Nat.le_of_ble_eq_true rfl) dX12_sorts_18 ?_
      refine g_istore X [(4, .int v5), (3, .int x2_2), (0, .ref (base + r0)), (1, .int x1), (2, .int x2_2)] dX12_sorts_21 (by decide) rfl ?_
      refine g_sub [2, 3, 4, 1, 0] rfl ?_
      obtain ⟨qq, hlp, hf⟩ := zbd hf
      refine lp_snd (body := (fun q : Int32 × Zh => bX12_sorts_23 h r0 v5 q.1 q.2)) (P := (fun q : Int32 × Zh => zG p l e { frames := 1, cells := 0, slots := 0, locals := 22 } s m args below meth c (MQ below (zQ D cA base h hE none) args s 0 0 (zA base)) 5 D cA base h 23 [(0, .ref (base + r0)), (1, .int x1), (2, .int x2_2), (3, .int q.1), (4, .int v5)] [] q.2)) (E := (fun (en : Nat) (q : Int32 × Zh) => zG p l e { frames := 1, cells := 0, slots := 0, locals := 22 } s m args below meth c (MQ below (zQ D cA base h hE none) args s 0 0 (zA base)) 5 D cA base h 60 [(0, .ref (base + r0)), (1, .int x1), (2, .int x2_2), (3, .int q.1), (4, .int v5)] [] q.2)) ?_ zB (x2_2, h4) qq.1 qq.2 hlp ?_
      · intro q e_23 q_23 hf hc0 hc1
        obtain ⟨x3_23, h_23⟩ := q
        have hf : bX12_sorts_23 h r0 v5 x3_23 h_23 = some (e_23, q_23) := hf
        unfold bX12_sorts_23 at hf
        show zG p l e { frames := 1, cells := 0, slots := 0, locals := 22 } s m args below meth c (MQ below (zQ D cA base h hE none) args s 0 0 (zA base)) 5 D cA base h 23 [(0, .ref (base + r0)), (1, .int x1), (2, .int x2_2), (3, .int x3_23), (4, .int v5)] [] h_23
        refine g_iload_n X 3 dX12_sorts_23 rfl ?_
        refine g_if_le X 60 dX12_sorts_24 (by decide) (fun hq => ?_) (fun hq => ?_)
        · have hf := zpos hq hf
          cases hf
          have hc1 := hc1 (by decide)
          exact g_sub [0, 1, 2, 3, 4] rfl hc1
        · have hf := zneg hq hf
          refine g_aload_n X 0 dX12_sorts_27 rfl ?_
          obtain ⟨r_6, hr_6, hf⟩ := zbd hf
          refine g_get X zf12 hk1 20 (by decide) w_f_RX12_27 rfl (zfv_r hr_6 rfl) dX12_sorts_28 ?_
          refine g_iload_n X 3 dX12_sorts_31 rfl ?_
          refine g_iconst X (v := 1) dX12_sorts_32 (by decide) ?_
          refine g_isub X dX12_sorts_33 ?_
          obtain ⟨hk7, hf⟩ := zite hf
          obtain ⟨hi8, hf⟩ := zite hf
          refine g_iald X hk7 hi8 dX12_sorts_34 ?_
          refine g_iload X 4 dX12_sorts_35 rfl ?_
          refine g_icmp_le X 60 dX12_sorts_37 (by decide) (fun hq => ?_) (fun hq => ?_)
          · have hf := zpos hq hf
            cases hf
            have hc1 := hc1 (by decide)
            exact g_sub [0, 1, 2, 3, 4] rfl hc1
          · have hf := zneg hq hf
            refine g_aload_n X 0 dX12_sorts_40 rfl ?_
            obtain ⟨r_9, hr_9, hf⟩ := zbd hf
            refine g_get X zf12 hk1 20 (by decide) w_f_RX12_27 rfl (zfv_r hr_9 rfl) dX12_sorts_41 ?_
            refine g_iload_n X 3 dX12_sorts_44 rfl ?_
            refine g_aload_n X 0 dX12_sorts_45 rfl ?_
            obtain ⟨r_10, hr_10, hf⟩ := zbd hf
            refine g_get X zf12 hk1 20 (by decide) w_f_RX12_27 rfl (zfv_r hr_10 rfl) dX12_sorts_46 ?_
            refine g_iload_n X 3 dX12_sorts_49 rfl ?_
            refine g_iconst X (v := 1) dX12_sorts_50 (by decide) ?_
            refine g_isub X dX12_sorts_51 ?_
            obtain ⟨hk11, hf⟩ := zite hf
            obtain ⟨hi12, hf⟩ := zite hf
            refine g_iald X hk11 hi12 dX12_sorts_52 ?_
            obtain ⟨hk13, hf⟩ := zite hf
            obtain ⟨hi14, hf⟩ := zite hf
            refine g_iast X hk13 hi14 dX12_sorts_53 ?_
            refine g_hp (fun h15 eh15 => ?_)
            have hf := zlet_n eh15 hf
            obtain ⟨y16, ey16⟩ : ∃ y : Int32, y = x3_23 + (-1 : Int32) := ⟨_, rfl⟩
            have hf := zlet_n ey16 hf
            refine g_iinc X (j := 3) [(3, .int y16), (0, .ref (base + r0)), (1, .int x1), (2, .int x2_2), (4, .int v5)] dX12_sorts_54 rfl (by rw [ey16]; rfl) (by decide) rfl ?_
            refine g_goto X 23 dX12_sorts_57 (by decide) ?_
            cases hf
            exact g_sub [1, 2, 3, 0, 4] rfl (hc0 rfl)
      · obtain ⟨ee, x3_k23, h_k23⟩ := qq
        have hf : kX12_sorts_23 h r0 x1 x2_2 v5 ee x3_k23 h_k23 = some (e_2, q_2) := hf
        unfold kX12_sorts_23 at hf
        show zG p l e { frames := 1, cells := 0, slots := 0, locals := 22 } s m args below meth c (MQ below (zQ D cA base h hE none) args s 0 0 (zA base)) 5 D cA base h 60 [(0, .ref (base + r0)), (1, .int x1), (2, .int x2_2), (3, .int x3_k23), (4, .int v5)] [] h_k23
        refine g_aload_n X 0 dX12_sorts_60 rfl ?_
        obtain ⟨r_17, hr_17, hf⟩ := zbd hf
        refine g_get X zf12 hk1 20 (by decide) w_f_RX12_27 rfl (zfv_r hr_17 rfl) dX12_sorts_61 ?_
        refine g_iload_n X 3 dX12_sorts_64 rfl ?_
        refine g_iload X 4 dX12_sorts_65 rfl ?_
        obtain ⟨hk18, hf⟩ := zite hf
        obtain ⟨hi19, hf⟩ := zite hf
        refine g_iast X hk18 hi19 dX12_sorts_67 ?_
        refine g_hp (fun h20 eh20 => ?_)
        have hf := zlet_n eh20 hf
        obtain ⟨y21, ey21⟩ : ∃ y : Int32, y = x2_2 + (1 : Int32) := ⟨_, rfl⟩
        have hf := zlet_n ey21 hf
        refine g_iinc X (j := 2) [(2, .int y21), (0, .ref (base + r0)), (1, .int x1), (3, .int x3_k23), (4, .int v5)] dX12_sorts_68 rfl (by rw [ey21]; rfl) (by decide) rfl ?_
        refine g_goto X 2 dX12_sorts_71 (by decide) ?_
        cases hf
        exact g_sub [1, 2, 0] rfl (hc0 rfl)
  · obtain ⟨ee, x2_k2, h_k2⟩ := qq
    have hf : kX12_sorts_2 h ee x2_k2 h_k2 = some hE := hf
    unfold kX12_sorts_2 at hf
    show zG p l e { frames := 1, cells := 0, slots := 0, locals := 22 } s m args below meth c (MQ below (zQ D cA base h hE none) args s 0 0 (zA base)) 5 D cA base h 74 [] [] h_k2
    cases hf
    exact g_vret X hr dX12_sorts_74

set_option maxHeartbeats 4000000 in
set_option maxRecDepth 100000 in
theorem sX12_keepsAt {l : Launch} {D : va_G} {cA : Nat → ClassId} {base : Nat} {sA : Nat → Nat} {r0 : Nat} {x1 : Int32} {h hE : Zh} {rE : Int32} (hf : fX12_keepsAt r0 x1 h = some (rE, hE)) : zC l yX12_keepsAt cX12_keepsAt 5 (some .int) 0 0 D cA base sA [.ref (base + r0), .int x1] h (some (.int rE)) hE := by
  refine g_entry RX12 (by decide) rfl (Nat.le_of_ble_eq_true rfl) ?_
  intro p e s m args below meth c X hr
  unfold fX12_keepsAt at hf
  have hf := zlet_n (x := h) rfl hf
  show zG p l e { frames := 0, cells := 0, slots := 0, locals := 0 } s m args below meth c (MQ below (zQ D cA base h hE (some (.int rE))) args s 0 0 (zA base)) 5 D cA base h 0 [(0, .ref (base + r0)), (1, .int x1)] [] h
  refine g_aload_n X 0 dX12_keepsAt_0 rfl ?_
  obtain ⟨hk1, hf⟩ := zite hf
  obtain ⟨r_2, hr_2, hf⟩ := zbd hf
  refine g_get X zf12 hk1 3 (by decide) w_f_RX12_329 rfl (zfv_r hr_2 rfl) dX12_keepsAt_1 ?_
  obtain ⟨hk3, hf⟩ := zite hf
  refine g_getN X zf11 hk3 2 (by decide) w_fn_RX12_232 rfl rfl dX12_keepsAt_4 ?_
  refine g_topi (fun y4 ey4 => ?_)
  have hf := zlet_n ey4 hf
  refine g_istore_n X [(2, .int y4), (0, .ref (base + r0)), (1, .int x1)] dX12_keepsAt_7 (by decide) rfl ?_
  refine g_iconst X (v := 0) dX12_keepsAt_8 (by decide) ?_
  refine g_istore_n X [(3, .int ((0 : Int32))), (2, .int y4), (0, .ref (base + r0)), (1, .int x1)] dX12_keepsAt_9 (by decide) rfl ?_
  refine g_iconst X (v := 0) dX12_keepsAt_10 (by decide) ?_
  refine g_istore X [(4, .int ((0 : Int32))), (3, .int ((0 : Int32))), (2, .int y4), (0, .ref (base + r0)), (1, .int x1)] dX12_keepsAt_11 (by decide) rfl ?_
  refine g_sub [3, 4, 2, 1, 0] rfl ?_
  obtain ⟨qq, hlp, hf⟩ := zbd hf
  refine lp_snd (body := (fun q : Int32 × Int32 × Zh => bX12_keepsAt_13 h r0 y4 q.1 q.2.1 q.2.2)) (P := (fun q : Int32 × Int32 × Zh => zG p l e { frames := 0, cells := 0, slots := 0, locals := 0 } s m args below meth c (MQ below (zQ D cA base h hE (some (.int rE))) args s 0 0 (zA base)) 5 D cA base h 13 [(0, .ref (base + r0)), (1, .int x1), (2, .int y4), (3, .int q.1), (4, .int q.2.1)] [] q.2.2)) (E := (fun (en : Nat) (q : Int32 × Int32 × Zh) => zG p l e { frames := 0, cells := 0, slots := 0, locals := 0 } s m args below meth c (MQ below (zQ D cA base h hE (some (.int rE))) args s 0 0 (zA base)) 5 D cA base h 35 [(0, .ref (base + r0)), (1, .int x1), (2, .int y4), (3, .int q.1)] [] q.2.2)) ?_ zB ((0 : Int32), ((0 : Int32), h)) qq.1 qq.2 hlp ?_
  · intro q e_13 q_13 hf hc0 hc1
    obtain ⟨x3_13, x4_13, h_13⟩ := q
    have hf : bX12_keepsAt_13 h r0 y4 x3_13 x4_13 h_13 = some (e_13, q_13) := hf
    unfold bX12_keepsAt_13 at hf
    show zG p l e { frames := 0, cells := 0, slots := 0, locals := 0 } s m args below meth c (MQ below (zQ D cA base h hE (some (.int rE))) args s 0 0 (zA base)) 5 D cA base h 13 [(0, .ref (base + r0)), (1, .int x1), (2, .int y4), (3, .int x3_13), (4, .int x4_13)] [] h_13
    refine g_iload X 4 dX12_keepsAt_13 rfl ?_
    refine g_iload_n X 2 dX12_keepsAt_15 rfl ?_
    refine g_icmp_ge X 35 dX12_keepsAt_16 (by decide) (fun hq => ?_) (fun hq => ?_)
    · have hf := zpos hq hf
      cases hf
      have hc1 := hc1 (by decide)
      exact g_sub [0, 1, 2, 3] rfl hc1
    · have hf := zneg hq hf
      refine g_iload_n X 3 dX12_keepsAt_19 rfl ?_
      refine g_aload_n X 0 dX12_keepsAt_20 rfl ?_
      obtain ⟨r_5, hr_5, hf⟩ := zbd hf
      refine g_get X zf12 hk1 20 (by decide) w_f_RX12_27 rfl (zfv_r hr_5 rfl) dX12_keepsAt_21 ?_
      refine g_iload X 4 dX12_keepsAt_24 rfl ?_
      obtain ⟨hk6, hf⟩ := zite hf
      obtain ⟨hi7, hf⟩ := zite hf
      refine g_iald X hk6 hi7 dX12_keepsAt_26 ?_
      refine g_iadd X dX12_keepsAt_27 ?_
      refine g_topi (fun y8 ey8 => ?_)
      have hf := zlet_n ey8 hf
      refine g_istore_n X [(3, .int y8), (0, .ref (base + r0)), (1, .int x1), (2, .int y4), (4, .int x4_13)] dX12_keepsAt_28 (by decide) rfl ?_
      obtain ⟨y9, ey9⟩ : ∃ y : Int32, y = x4_13 + (1 : Int32) := ⟨_, rfl⟩
      have hf := zlet_n ey9 hf
      refine g_iinc X (j := 4) [(4, .int y9), (3, .int y8), (0, .ref (base + r0)), (1, .int x1), (2, .int y4)] dX12_keepsAt_29 rfl (by rw [ey9]; rfl) (by decide) rfl ?_
      refine g_goto X 13 dX12_keepsAt_32 (by decide) ?_
      cases hf
      exact g_sub [2, 3, 4, 1, 0] rfl (hc0 rfl)
  · obtain ⟨ee, x3_k13, x4_k13, h_k13⟩ := qq
    have hf : kX12_keepsAt_13 h r0 x1 y4 ee x3_k13 x4_k13 h_k13 = some (rE, hE) := hf
    unfold kX12_keepsAt_13 at hf
    show zG p l e { frames := 0, cells := 0, slots := 0, locals := 0 } s m args below meth c (MQ below (zQ D cA base h hE (some (.int rE))) args s 0 0 (zA base)) 5 D cA base h 35 [(0, .ref (base + r0)), (1, .int x1), (2, .int y4), (3, .int x3_k13)] [] h_k13
    refine g_iload_n X 1 dX12_keepsAt_35 rfl ?_
    refine g_if_ne X 43 dX12_keepsAt_36 (by decide) (fun hq => ?_) (fun hq => ?_)
    · have hf := zneg hq hf
      refine g_iload_n X 1 dX12_keepsAt_43 rfl ?_
      refine g_iconst X (v := 1) dX12_keepsAt_44 (by decide) ?_
      refine g_icmp_ne X 54 dX12_keepsAt_45 (by decide) (fun hq => ?_) (fun hq => ?_)
      · have hf := zneg hq hf
        refine g_iload_n X 1 dX12_keepsAt_54 rfl ?_
        refine g_iconst X (v := 2) dX12_keepsAt_55 (by decide) ?_
        refine g_icmp_ne X 73 dX12_keepsAt_56 (by decide) (fun hq => ?_) (fun hq => ?_)
        · have hf := zneg hq hf
          refine g_iload_n X 3 dX12_keepsAt_73 rfl ?_
          refine g_iload_n X 2 dX12_keepsAt_74 rfl ?_
          obtain ⟨hn10, hf⟩ := zite hf
          refine g_irem X hn10 dX12_keepsAt_75 ?_
          obtain ⟨rfl, rfl⟩ := zsm hf
          exact g_iret X hr dX12_keepsAt_76
        · have hf := zpos hq hf
          refine g_iload_n X 2 dX12_keepsAt_59 rfl ?_
          refine g_aload_n X 0 dX12_keepsAt_60 rfl ?_
          obtain ⟨r_11, hr_11, hf⟩ := zbd hf
          refine g_get X zf12 hk1 3 (by decide) w_f_RX12_329 rfl (zfv_r hr_11 rfl) dX12_keepsAt_61 ?_
          obtain ⟨hk12, hf⟩ := zite hf
          refine g_getN X zf11 hk12 3 (by decide) w_fn_RX12_255 rfl rfl dX12_keepsAt_64 ?_
          refine g_isub X dX12_keepsAt_67 ?_
          refine g_iconst X (v := 2) dX12_keepsAt_68 (by decide) ?_
          obtain ⟨hn13, hf⟩ := zite hf
          refine g_idiv X hn13 dX12_keepsAt_69 ?_
          refine g_goto X 76 dX12_keepsAt_70 (by decide) ?_
          obtain ⟨rfl, rfl⟩ := zsm hf
          exact g_iret X hr dX12_keepsAt_76
      · have hf := zpos hq hf
        refine g_iload_n X 2 dX12_keepsAt_48 rfl ?_
        refine g_iconst X (v := 1) dX12_keepsAt_49 (by decide) ?_
        refine g_isub X dX12_keepsAt_50 ?_
        refine g_goto X 76 dX12_keepsAt_51 (by decide) ?_
        obtain ⟨rfl, rfl⟩ := zsm hf
        exact g_iret X hr dX12_keepsAt_76
    · have hf := zpos hq hf
      refine g_iconst X (v := 0) dX12_keepsAt_39 (by decide) ?_
      refine g_goto X 76 dX12_keepsAt_40 (by decide) ?_
      obtain ⟨rfl, rfl⟩ := zsm hf
      exact g_iret X hr dX12_keepsAt_76

set_option maxHeartbeats 4000000 in
set_option maxRecDepth 100000 in
theorem sX12_tells {l : Launch} {D : va_G} {cA : Nat → ClassId} {base : Nat} {sA : Nat → Nat} {r0 : Nat} {x1 : Int32} {x2 : Int32} {x3 : Int32} {x4 : Int32} {h hE : Zh} {rE : Int32} (hf : fX12_tells r0 x1 x2 x3 x4 h = some (rE, hE)) : zC l yX12_tells cX12_tells 10 (some .int) 2 45 D cA base sA [.ref (base + r0), .int x1, .int x2, .int x3, .int x4] h (some (.int rE)) hE := by
  refine g_entry RX12 (by decide) rfl (Nat.le_of_ble_eq_true rfl) ?_
  intro p e s m args below meth c X hr
  unfold fX12_tells at hf
  have hf := zlet_n (x := h) rfl hf
  show zG p l e { frames := 2, cells := 0, slots := 0, locals := 45 } s m args below meth c (MQ below (zQ D cA base h hE (some (.int rE))) args s 0 0 (zA base)) 10 D cA base h 0 [(0, .ref (base + r0)), (1, .int x1), (2, .int x2), (3, .int x3), (4, .int x4)] [] h
  refine g_aload_n X 0 dX12_tells_0 rfl ?_
  obtain ⟨hk1, hf⟩ := zite hf
  obtain ⟨r_2, hr_2, hf⟩ := zbd hf
  refine g_get X zf12 hk1 3 (by decide) w_f_RX12_329 rfl (zfv_r hr_2 rfl) dX12_tells_1 ?_
  obtain ⟨hk3, hf⟩ := zite hf
  refine g_getN X zf11 hk3 0 (by decide) w_fn_RX12_194 rfl rfl dX12_tells_4 ?_
  refine g_topi (fun y4 ey4 => ?_)
  have hf := zlet_n ey4 hf
  refine g_istore X [(5, .int y4), (0, .ref (base + r0)), (1, .int x1), (2, .int x2), (3, .int x3), (4, .int x4)] dX12_tells_7 (by decide) rfl ?_
  refine g_iconst X (v := 0) dX12_tells_9 (by decide) ?_
  refine g_istore X [(6, .int ((0 : Int32))), (5, .int y4), (0, .ref (base + r0)), (1, .int x1), (2, .int x2), (3, .int x3), (4, .int x4)] dX12_tells_10 (by decide) rfl ?_
  refine g_iload_n X 3 dX12_tells_12 rfl ?_
  by_cases hs5 : x1 = 0
  · have hf := zpos hs5 hf
    refine g_tswIn X 44 dX12_tells_13 (by rw [hs5]; decide) (by rw [hs5]; decide) (by rw [hs5]; rfl) (by decide) ?_
    refine g_iload_n X 4 dX12_tells_44 rfl ?_
    obtain ⟨rfl, rfl⟩ := zsm hf
    exact g_iret X hr dX12_tells_45
  have hf := zneg hs5 hf
  have ehs5 := lv_neT hs5 (a := 0) (by decide)
  by_cases hs10 : x1 = 1
  · have hf := zpos hs10 hf
    refine g_tswIn X 46 dX12_tells_13 (by rw [hs10]; decide) (by rw [hs10]; decide) (by rw [hs10]; rfl) (by decide) ?_
    refine g_iload_n X 4 dX12_tells_46 rfl ?_
    refine g_iload X 1 dX12_tells_47 rfl ?_
    refine g_aload_n X 2 dX12_tells_49 rfl ?_
    obtain ⟨r_6, hr_6, hf⟩ := zbd hf
    refine g_get X zf12 hk1 3 (by decide) w_f_RX12_329 rfl (zfv_r hr_6 rfl) dX12_tells_50 ?_
    obtain ⟨hk7, hf⟩ := zite hf
    refine g_getN X zf11 hk7 1 (by decide) w_fn_RX12_253 rfl rfl dX12_tells_53 ?_
    obtain ⟨hn8, hf⟩ := zite hf
    refine g_idiv X hn8 dX12_tells_56 ?_
    obtain ⟨hn9, hf⟩ := zite hf
    refine g_irem X hn9 dX12_tells_57 ?_
    obtain ⟨rfl, rfl⟩ := zsm hf
    exact g_iret X hr dX12_tells_58
  have hf := zneg hs10 hf
  have ehs10 := lv_neT hs10 (a := 1) (by decide)
  by_cases hs20 : x1 = 2
  · have hf := zpos hs20 hf
    refine g_tswIn X 59 dX12_tells_13 (by rw [hs20]; decide) (by rw [hs20]; decide) (by rw [hs20]; rfl) (by decide) ?_
    refine g_iload X 1 dX12_tells_59 rfl ?_
    refine g_istore X [(6, .int y4), (5, .int y4), (0, .ref (base + r0)), (1, .int x1), (2, .int x2), (3, .int x3), (4, .int x4)] dX12_tells_61 (by decide) rfl ?_
    refine g_iconst X (v := 0) dX12_tells_63 (by decide) ?_
    refine g_istore X [(7, .int ((0 : Int32))), (6, .int y4), (5, .int y4), (0, .ref (base + r0)), (1, .int x1), (2, .int x2), (3, .int x3), (4, .int x4)] dX12_tells_64 (by decide) rfl ?_
    refine g_sub [3, 5, 6, 7, 2, 1, 0] rfl ?_
    obtain ⟨qq, hlp, hf⟩ := zbd hf
    refine lp_snd (body := (fun q : Int32 × Int32 × Zh => bX12_tells_66 h r0 x2 x3 x4 y4 q.1 q.2.1 q.2.2)) (P := (fun q : Int32 × Int32 × Zh => zG p l e { frames := 2, cells := 0, slots := 0, locals := 45 } s m args below meth c (MQ below (zQ D cA base h hE (some (.int rE))) args s 0 0 (zA base)) 10 D cA base h 66 [(0, .ref (base + r0)), (2, .int x2), (3, .int x3), (4, .int x4), (5, .int y4), (6, .int q.1), (7, .int q.2.1)] [] q.2.2)) (E := (fun (en : Nat) (q : Int32 × Int32 × Zh) => zG p l e { frames := 2, cells := 0, slots := 0, locals := 45 } s m args below meth c (MQ below (zQ D cA base h hE (some (.int rE))) args s 0 0 (zA base)) 10 D cA base h 126 [(6, .int q.1)] [] q.2.2)) ?_ zB (y4, ((0 : Int32), h)) qq.1 qq.2 hlp ?_
    · intro q e_66 q_66 hf hc0 hc1
      obtain ⟨x6_66, x7_66, h_66⟩ := q
      have hf : bX12_tells_66 h r0 x2 x3 x4 y4 x6_66 x7_66 h_66 = some (e_66, q_66) := hf
      unfold bX12_tells_66 at hf
      show zG p l e { frames := 2, cells := 0, slots := 0, locals := 45 } s m args below meth c (MQ below (zQ D cA base h hE (some (.int rE))) args s 0 0 (zA base)) 10 D cA base h 66 [(0, .ref (base + r0)), (2, .int x2), (3, .int x3), (4, .int x4), (5, .int y4), (6, .int x6_66), (7, .int x7_66)] [] h_66
      refine g_iload X 6 dX12_tells_66 rfl ?_
      refine g_aload_n X 0 dX12_tells_68 rfl ?_
      obtain ⟨r_11, hr_11, hf⟩ := zbd hf
      refine g_get X zf12 hk1 3 (by decide) w_f_RX12_329 rfl (zfv_r hr_11 rfl) dX12_tells_69 ?_
      obtain ⟨hk12, hf⟩ := zite hf
      refine g_getN X zf11 hk12 2 (by decide) w_fn_RX12_232 rfl rfl dX12_tells_72 ?_
      refine g_icmp_ge X 126 dX12_tells_75 (by decide) (fun hq => ?_) (fun hq => ?_)
      · have hf := zpos hq hf
        cases hf
        have hc1 := hc1 (by decide)
        exact g_sub [5] rfl hc1
      · have hf := zneg hq hf
        refine g_aload_n X 0 dX12_tells_78 rfl ?_
        refine g_iload_n X 2 dX12_tells_79 rfl ?_
        refine g_iload X 6 dX12_tells_80 rfl ?_
        obtain ⟨v14, h13, hch13, hf⟩ := zc2_e hf
        refine g_callV X 2 (sX12_cardOf hch13) zf12 hk1 ydX12_cardOf w_ml_RX12_366 w_instanceMethod_X12_cardOf w_sel_X12_cardOf w_ini_RX12 w_code_X12_cardOf (by decide) rfl (st := []) rfl rfl (Nat.le_of_ble_eq_true rfl) dX12_tells_82 ?_
        refine g_istore X [(8, .int v14), (0, .ref (base + r0)), (2, .int x2), (3, .int x3), (4, .int x4), (5, .int y4), (6, .int x6_66), (7, .int x7_66)] dX12_tells_85 (by decide) rfl ?_
        refine g_iload_n X 2 dX12_tells_87 rfl ?_
        refine g_iload X 0 dX12_tells_88 rfl ?_
        refine g_isub X dX12_tells_90 ?_
        refine g_iload X 5 dX12_tells_91 rfl ?_
        refine g_iadd X dX12_tells_93 ?_
        refine g_iload X 5 dX12_tells_94 rfl ?_
        obtain ⟨hn15, hf⟩ := zite hf
        refine g_irem X hn15 dX12_tells_96 ?_
        refine g_topi (fun y16 ey16 => ?_)
        have hf := zlet_n ey16 hf
        refine g_istore X [(9, .int y16), (8, .int v14), (0, .ref (base + r0)), (2, .int x2), (3, .int x3), (4, .int x4), (5, .int y4), (6, .int x6_66), (7, .int x7_66)] dX12_tells_97 (by decide) rfl ?_
        refine g_iload X 5 dX12_tells_99 rfl ?_
        refine g_iload X 1 dX12_tells_101 rfl ?_
        refine g_ishr X dX12_tells_103 ?_
        refine g_iconst X (v := 1) dX12_tells_104 (by decide) ?_
        refine g_iand X dX12_tells_105 ?_
        refine g_if_ne X 120 dX12_tells_106 (by decide) (fun hq => ?_) (fun hq => ?_)
        · have hf := zneg hq hf
          obtain ⟨y17, ey17⟩ : ∃ y : Int32, y = x7_66 + (1 : Int32) := ⟨_, rfl⟩
          have hf := zlet_n ey17 hf
          refine g_iinc X (j := 8) [(7, .int y17), (9, .int y16), (8, .int v14), (0, .ref (base + r0)), (2, .int x2), (3, .int x3), (4, .int x4), (5, .int y4), (6, .int x6_66)] dX12_tells_120 rfl (by rw [ey17]; rfl) (by decide) rfl ?_
          refine g_goto X 66 dX12_tells_123 (by decide) ?_
          cases hf
          exact g_sub [3, 4, 5, 6, 7, 8, 0] rfl (hc0 rfl)
        · have hf := zpos hq hf
          refine g_iload X 0 dX12_tells_109 rfl ?_
          refine g_iload X 7 dX12_tells_111 rfl ?_
          refine g_icmp_ge X 120 dX12_tells_113 (by decide) (fun hq => ?_) (fun hq => ?_)
          · have hf := zpos hq hf
            obtain ⟨y18, ey18⟩ : ∃ y : Int32, y = x7_66 + (1 : Int32) := ⟨_, rfl⟩
            have hf := zlet_n ey18 hf
            refine g_iinc X (j := 8) [(7, .int y18), (9, .int y16), (8, .int v14), (0, .ref (base + r0)), (2, .int x2), (3, .int x3), (4, .int x4), (5, .int y4), (6, .int x6_66)] dX12_tells_120 rfl (by rw [ey18]; rfl) (by decide) rfl ?_
            refine g_goto X 66 dX12_tells_123 (by decide) ?_
            cases hf
            exact g_sub [3, 4, 5, 6, 7, 8, 0] rfl (hc0 rfl)
          · have hf := zneg hq hf
            refine g_iload X 0 dX12_tells_116 rfl ?_
            refine g_istore X [(6, .int y16), (9, .int y16), (8, .int v14), (0, .ref (base + r0)), (2, .int x2), (3, .int x3), (4, .int x4), (5, .int y4), (7, .int x7_66)] dX12_tells_118 (by decide) rfl ?_
            obtain ⟨y19, ey19⟩ : ∃ y : Int32, y = x7_66 + (1 : Int32) := ⟨_, rfl⟩
            have hf := zlet_n ey19 hf
            refine g_iinc X (j := 8) [(7, .int y19), (6, .int y16), (9, .int y16), (8, .int v14), (0, .ref (base + r0)), (2, .int x2), (3, .int x3), (4, .int x4), (5, .int y4)] dX12_tells_120 rfl (by rw [ey19]; rfl) (by decide) rfl ?_
            refine g_goto X 66 dX12_tells_123 (by decide) ?_
            cases hf
            exact g_sub [4, 5, 6, 7, 8, 1, 0] rfl (hc0 rfl)
    · obtain ⟨ee, x6_k66, x7_k66, h_k66⟩ := qq
      have hf : kX12_tells_66 h ee x6_k66 x7_k66 h_k66 = some (rE, hE) := hf
      unfold kX12_tells_66 at hf
      show zG p l e { frames := 2, cells := 0, slots := 0, locals := 45 } s m args below meth c (MQ below (zQ D cA base h hE (some (.int rE))) args s 0 0 (zA base)) 10 D cA base h 126 [(6, .int x6_k66)] [] h_k66
      refine g_iload X 0 dX12_tells_126 rfl ?_
      obtain ⟨rfl, rfl⟩ := zsm hf
      exact g_iret X hr dX12_tells_128
  have hf := zneg hs20 hf
  have ehs20 := lv_neT hs20 (a := 2) (by decide)
  by_cases hs32 : x1 = 3
  · have hf := zpos hs32 hf
    refine g_tswIn X 129 dX12_tells_13 (by rw [hs32]; decide) (by rw [hs32]; decide) (by rw [hs32]; rfl) (by decide) ?_
    refine g_iconst X (v := 0) dX12_tells_129 (by decide) ?_
    refine g_istore X [(7, .int ((0 : Int32))), (6, .int ((0 : Int32))), (5, .int y4), (0, .ref (base + r0)), (1, .int x1), (2, .int x2), (3, .int x3), (4, .int x4)] dX12_tells_130 (by decide) rfl ?_
    refine g_sub [3, 5, 6, 7, 1, 0] rfl ?_
    obtain ⟨qq, hlp, hf⟩ := zbd hf
    refine lp_snd (body := (fun q : Int32 × Int32 × Zh => bX12_tells_132 h r0 x2 x3 x4 q.1 q.2.1 q.2.2)) (P := (fun q : Int32 × Int32 × Zh => zG p l e { frames := 2, cells := 0, slots := 0, locals := 45 } s m args below meth c (MQ below (zQ D cA base h hE (some (.int rE))) args s 0 0 (zA base)) 10 D cA base h 132 [(0, .ref (base + r0)), (2, .int x2), (3, .int x3), (4, .int x4), (6, .int q.1), (7, .int q.2.1)] [] q.2.2)) (E := (fun (en : Nat) (q : Int32 × Int32 × Zh) => zG p l e { frames := 2, cells := 0, slots := 0, locals := 45 } s m args below meth c (MQ below (zQ D cA base h hE (some (.int rE))) args s 0 0 (zA base)) 10 D cA base h 175 [(0, .ref (base + r0)), (6, .int q.1)] [] q.2.2)) ?_ zB ((0 : Int32), ((0 : Int32), h)) qq.1 qq.2 hlp ?_
    · intro q e_132 q_132 hf hc0 hc1
      obtain ⟨x6_132, x7_132, h_132⟩ := q
      have hf : bX12_tells_132 h r0 x2 x3 x4 x6_132 x7_132 h_132 = some (e_132, q_132) := hf
      unfold bX12_tells_132 at hf
      show zG p l e { frames := 2, cells := 0, slots := 0, locals := 45 } s m args below meth c (MQ below (zQ D cA base h hE (some (.int rE))) args s 0 0 (zA base)) 10 D cA base h 132 [(0, .ref (base + r0)), (2, .int x2), (3, .int x3), (4, .int x4), (6, .int x6_132), (7, .int x7_132)] [] h_132
      refine g_iload X 5 dX12_tells_132 rfl ?_
      refine g_iload_n X 1 dX12_tells_134 rfl ?_
      refine g_icmp_ge X 175 dX12_tells_135 (by decide) (fun hq => ?_) (fun hq => ?_)
      · have hf := zpos hq hf
        cases hf
        have hc1 := hc1 (by decide)
        exact g_sub [0, 4] rfl hc1
      · have hf := zneg hq hf
        refine g_iload X 4 dX12_tells_138 rfl ?_
        refine g_aload_n X 0 dX12_tells_140 rfl ?_
        refine g_iload_n X 2 dX12_tells_141 rfl ?_
        refine g_iload X 5 dX12_tells_142 rfl ?_
        obtain ⟨v22, h21, hch21, hf⟩ := zc2_e hf
        refine g_callV X 2 (sX12_has hch21) zf12 hk1 ydX12_has w_ml_RX12_369 w_instanceMethod_X12_has w_sel_X12_has w_ini_RX12 w_code_X12_has (by decide) rfl (st := [.int x6_132]) rfl rfl (Nat.le_of_ble_eq_true rfl) dX12_tells_144 ?_
        refine g_if_eq X 161 dX12_tells_147 (by decide) (fun hq => ?_) (fun hq => ?_)
        · have hf := zpos hq hf
          refine g_iconst X (v := 1) dX12_tells_161 (by decide) ?_
          refine g_goto X 166 dX12_tells_162 (by decide) ?_
          refine g_iadd X dX12_tells_166 ?_
          refine g_topi (fun y23 ey23 => ?_)
          have hf := zlet_n ey23 hf
          refine g_istore X [(6, .int y23), (0, .ref (base + r0)), (2, .int x2), (3, .int x3), (4, .int x4), (7, .int x7_132)] dX12_tells_167 (by decide) rfl ?_
          obtain ⟨y24, ey24⟩ : ∃ y : Int32, y = x7_132 + (1 : Int32) := ⟨_, rfl⟩
          have hf := zlet_n ey24 hf
          refine g_iinc X (j := 5) [(7, .int y24), (6, .int y23), (0, .ref (base + r0)), (2, .int x2), (3, .int x3), (4, .int x4)] dX12_tells_169 rfl (by rw [ey24]; rfl) (by decide) rfl ?_
          refine g_goto X 132 dX12_tells_172 (by decide) ?_
          cases hf
          exact g_sub [2, 3, 4, 5, 1, 0] rfl (hc0 rfl)
        · have hf := zneg hq hf
          refine g_iload X 3 dX12_tells_150 rfl ?_
          refine g_iload X 5 dX12_tells_152 rfl ?_
          refine g_ishr X dX12_tells_154 ?_
          refine g_iconst X (v := 1) dX12_tells_155 (by decide) ?_
          refine g_iand X dX12_tells_156 ?_
          refine g_iconst X (v := 1) dX12_tells_157 (by decide) ?_
          refine g_icmp_ne X 165 dX12_tells_158 (by decide) (fun hq => ?_) (fun hq => ?_)
          · have hf := zneg hq hf
            refine g_iconst X (v := 0) dX12_tells_165 (by decide) ?_
            refine g_iadd X dX12_tells_166 ?_
            refine g_topi (fun y25 ey25 => ?_)
            have hf := zlet_n ey25 hf
            refine g_istore X [(6, .int y25), (0, .ref (base + r0)), (2, .int x2), (3, .int x3), (4, .int x4), (7, .int x7_132)] dX12_tells_167 (by decide) rfl ?_
            obtain ⟨y26, ey26⟩ : ∃ y : Int32, y = x7_132 + (1 : Int32) := ⟨_, rfl⟩
            have hf := zlet_n ey26 hf
            refine g_iinc X (j := 5) [(7, .int y26), (6, .int y25), (0, .ref (base + r0)), (2, .int x2), (3, .int x3), (4, .int x4)] dX12_tells_169 rfl (by rw [ey26]; rfl) (by decide) rfl ?_
            refine g_goto X 132 dX12_tells_172 (by decide) ?_
            cases hf
            exact g_sub [2, 3, 4, 5, 1, 0] rfl (hc0 rfl)
          · have hf := zpos hq hf
            refine g_iconst X (v := 1) dX12_tells_161 (by decide) ?_
            refine g_goto X 166 dX12_tells_162 (by decide) ?_
            refine g_iadd X dX12_tells_166 ?_
            refine g_topi (fun y27 ey27 => ?_)
            have hf := zlet_n ey27 hf
            refine g_istore X [(6, .int y27), (0, .ref (base + r0)), (2, .int x2), (3, .int x3), (4, .int x4), (7, .int x7_132)] dX12_tells_167 (by decide) rfl ?_
            obtain ⟨y28, ey28⟩ : ∃ y : Int32, y = x7_132 + (1 : Int32) := ⟨_, rfl⟩
            have hf := zlet_n ey28 hf
            refine g_iinc X (j := 5) [(7, .int y28), (6, .int y27), (0, .ref (base + r0)), (2, .int x2), (3, .int x3), (4, .int x4)] dX12_tells_169 rfl (by rw [ey28]; rfl) (by decide) rfl ?_
            refine g_goto X 132 dX12_tells_172 (by decide) ?_
            cases hf
            exact g_sub [2, 3, 4, 5, 1, 0] rfl (hc0 rfl)
    · obtain ⟨ee, x6_k132, x7_k132, h_k132⟩ := qq
      have hf : kX12_tells_132 h r0 ee x6_k132 x7_k132 h_k132 = some (rE, hE) := hf
      unfold kX12_tells_132 at hf
      show zG p l e { frames := 2, cells := 0, slots := 0, locals := 45 } s m args below meth c (MQ below (zQ D cA base h hE (some (.int rE))) args s 0 0 (zA base)) 10 D cA base h 175 [(0, .ref (base + r0)), (6, .int x6_k132)] [] h_k132
      refine g_iload X 1 dX12_tells_175 rfl ?_
      refine g_aload_n X 0 dX12_tells_177 rfl ?_
      obtain ⟨r_29, hr_29, hf⟩ := zbd hf
      refine g_get X zf12 hk1 3 (by decide) w_f_RX12_329 rfl (zfv_r hr_29 rfl) dX12_tells_178 ?_
      obtain ⟨hk30, hf⟩ := zite hf
      refine g_getN X zf11 hk30 2 (by decide) w_fn_RX12_232 rfl rfl dX12_tells_181 ?_
      obtain ⟨hn31, hf⟩ := zite hf
      refine g_idiv X hn31 dX12_tells_184 ?_
      obtain ⟨rfl, rfl⟩ := zsm hf
      exact g_iret X hr dX12_tells_185
  have hf := zneg hs32 hf
  have ehs32 := lv_neT hs32 (a := 3) (by decide)
  refine g_tswOut X 186 dX12_tells_13 (by omega) (by decide) ?_
  refine g_iconst X (v := 0) dX12_tells_186 (by decide) ?_
  refine g_istore X [(7, .int ((0 : Int32))), (6, .int ((0 : Int32))), (5, .int y4), (0, .ref (base + r0)), (1, .int x1), (2, .int x2), (3, .int x3), (4, .int x4)] dX12_tells_187 (by decide) rfl ?_
  refine g_sub [7, 2, 1, 0] rfl ?_
  obtain ⟨qq, hlp, hf⟩ := zbd hf
  refine lp_snd (body := (fun q : Int32 × Int32 × Zh => bX12_tells_189 h x4 y4 q.1 q.2.1 q.2.2)) (P := (fun q : Int32 × Int32 × Zh => zG p l e { frames := 2, cells := 0, slots := 0, locals := 45 } s m args below meth c (MQ below (zQ D cA base h hE (some (.int rE))) args s 0 0 (zA base)) 10 D cA base h 189 [(4, .int x4), (5, .int y4), (6, .int q.1), (7, .int q.2.1)] [] q.2.2)) (E := (fun (en : Nat) (q : Int32 × Int32 × Zh) => zG p l e { frames := 2, cells := 0, slots := 0, locals := 45 } s m args below meth c (MQ below (zQ D cA base h hE (some (.int rE))) args s 0 0 (zA base)) 10 D cA base h 224 [(5, .int y4), (6, .int q.1)] [] q.2.2)) ?_ zB ((0 : Int32), ((0 : Int32), h)) qq.1 qq.2 hlp ?_
  · intro q e_189 q_189 hf hc0 hc1
    obtain ⟨x6_189, x7_189, h_189⟩ := q
    have hf : bX12_tells_189 h x4 y4 x6_189 x7_189 h_189 = some (e_189, q_189) := hf
    unfold bX12_tells_189 at hf
    show zG p l e { frames := 2, cells := 0, slots := 0, locals := 45 } s m args below meth c (MQ below (zQ D cA base h hE (some (.int rE))) args s 0 0 (zA base)) 10 D cA base h 189 [(4, .int x4), (5, .int y4), (6, .int x6_189), (7, .int x7_189)] [] h_189
    refine g_iload X 3 dX12_tells_189 rfl ?_
    refine g_iload X 1 dX12_tells_191 rfl ?_
    refine g_icmp_ge X 224 dX12_tells_193 (by decide) (fun hq => ?_) (fun hq => ?_)
    · have hf := zpos hq hf
      cases hf
      have hc1 := hc1 (by decide)
      exact g_sub [1, 2] rfl hc1
    · have hf := zneg hq hf
      refine g_iload X 2 dX12_tells_196 rfl ?_
      refine g_iload X 0 dX12_tells_198 rfl ?_
      refine g_iload X 3 dX12_tells_200 rfl ?_
      refine g_ishr X dX12_tells_202 ?_
      refine g_iconst X (v := 1) dX12_tells_203 (by decide) ?_
      refine g_iand X dX12_tells_204 ?_
      refine g_iconst X (v := 1) dX12_tells_205 (by decide) ?_
      refine g_icmp_ne X 214 dX12_tells_206 (by decide) (fun hq => ?_) (fun hq => ?_)
      · have hf := zneg hq hf
        refine g_iconst X (v := 0) dX12_tells_214 (by decide) ?_
        refine g_iadd X dX12_tells_215 ?_
        refine g_topi (fun y33 ey33 => ?_)
        have hf := zlet_n ey33 hf
        refine g_istore X [(6, .int y33), (4, .int x4), (5, .int y4), (7, .int x7_189)] dX12_tells_216 (by decide) rfl ?_
        obtain ⟨y34, ey34⟩ : ∃ y : Int32, y = x7_189 + (1 : Int32) := ⟨_, rfl⟩
        have hf := zlet_n ey34 hf
        refine g_iinc X (j := 3) [(7, .int y34), (6, .int y33), (4, .int x4), (5, .int y4)] dX12_tells_218 rfl (by rw [ey34]; rfl) (by decide) rfl ?_
        refine g_goto X 189 dX12_tells_221 (by decide) ?_
        cases hf
        exact g_sub [2, 3, 1, 0] rfl (hc0 rfl)
      · have hf := zpos hq hf
        refine g_iload X 3 dX12_tells_209 rfl ?_
        refine g_goto X 215 dX12_tells_211 (by decide) ?_
        refine g_iadd X dX12_tells_215 ?_
        refine g_topi (fun y35 ey35 => ?_)
        have hf := zlet_n ey35 hf
        refine g_istore X [(6, .int y35), (4, .int x4), (5, .int y4), (7, .int x7_189)] dX12_tells_216 (by decide) rfl ?_
        obtain ⟨y36, ey36⟩ : ∃ y : Int32, y = x7_189 + (1 : Int32) := ⟨_, rfl⟩
        have hf := zlet_n ey36 hf
        refine g_iinc X (j := 3) [(7, .int y36), (6, .int y35), (4, .int x4), (5, .int y4)] dX12_tells_218 rfl (by rw [ey36]; rfl) (by decide) rfl ?_
        refine g_goto X 189 dX12_tells_221 (by decide) ?_
        cases hf
        exact g_sub [2, 3, 1, 0] rfl (hc0 rfl)
  · obtain ⟨ee, x6_k189, x7_k189, h_k189⟩ := qq
    have hf : kX12_tells_189 h y4 ee x6_k189 x7_k189 h_k189 = some (rE, hE) := hf
    unfold kX12_tells_189 at hf
    show zG p l e { frames := 2, cells := 0, slots := 0, locals := 45 } s m args below meth c (MQ below (zQ D cA base h hE (some (.int rE))) args s 0 0 (zA base)) 10 D cA base h 224 [(5, .int y4), (6, .int x6_k189)] [] h_k189
    refine g_iload X 1 dX12_tells_224 rfl ?_
    refine g_iload X 0 dX12_tells_226 rfl ?_
    obtain ⟨hn37, hf⟩ := zite hf
    refine g_irem X hn37 dX12_tells_228 ?_
    obtain ⟨rfl, rfl⟩ := zsm hf
    exact g_iret X hr dX12_tells_229

