/-! FifthCard Pairing rowAt -/
def jX6_rowAt_92 (g : Zh) (r0 : Nat) (x3 : Int32) (h : Zh) : Option (Int32 × Zh) :=
  (zR h r0 8).bind fun r_6 => if zK g r_6 = 100 then if zin x3 (zL g r_6) then (zR h r0 3).bind fun r_9 => if zK g r_9 = 0 then some (((zI h r_6 x3.toNatClampNeg) - ((1 : Int32))) * (zI h r_9 12), h) else none else none else none
def bX6_rowAt_21 (g : Zh) (r0 : Nat) (x1 : Int32) (x2 : Int32) (x4 : Int32) (h : Zh) : Option (Nat × Int32 × Zh) :=
  (zR h r0 3).bind fun r_11 => if zK g r_11 = 0 then if (zI h r_11 5) ≤ x4 then some (1, (x4, h)) else (zR h r0 7).bind fun r_13 => (zR h r0 4).bind fun r_14 => if zK g r_14 = 100 then if zin x1 (zL g r_14) then (zR h r0 5).bind fun r_17 => if zK g r_17 = 100 then if zin x2 (zL g r_17) then zc2 (fX0_cardAt (zI h r_17 x2.toNatClampNeg) x4 h) fun v21 h20 => zc2 (fX0_cardAt (zI h r_14 x1.toNatClampNeg) v21 h20) fun v23 h22 => if zK g r_13 = 100 then if zin x4 (zL g r_13) then zlet (zsI h22 r_13 x4.toNatClampNeg v23) fun h26 => zlet (x4 + (1 : Int32)) fun y27 => some (0, (y27, h26)) else none else none else none else none else none else none else none
def kX6_rowAt_21 (g : Zh) (r0 : Nat) (x3 : Int32) (e : Nat) (x4 : Int32) (h : Zh) : Option (Int32 × Zh) :=
  (zR h r0 8).bind fun r_28 => (zR h r0 3).bind fun r_29 => (zR h r0 7).bind fun r_30 => (zR h r0 3).bind fun r_31 => if zK g r_31 = 0 then if zK g r_29 = 0 then zc2 (fX0_rowNumber r_29 r_30 (zI h r_31 5) h) fun v35 h34 => if zK g r_28 = 100 then if zin x3 (zL g r_28) then zlet (zsI h34 r_28 x3.toNatClampNeg (((1 : Int32)) + v35)) fun h38 => jX6_rowAt_92 g r0 x3 h38 else none else none else none else none
def fX6_rowAt (r0 : Nat) (x1 : Int32) (x2 : Int32) (h : Zh) : Option (Int32 × Zh) := zlet h fun g =>
  if zK g r0 = 6 then zlet ((x1 * (zI h r0 6)) + x2) fun y2 => (zR h r0 8).bind fun r_3 => if zK g r_3 = 100 then if zin y2 (zL g r_3) then if (zI h r_3 y2.toNatClampNeg) = 0 then (lp (fun q : Int32 × Zh => bX6_rowAt_21 g r0 x1 x2 q.1 q.2) zB ((0 : Int32), h)).bind fun q => kX6_rowAt_21 g r0 y2 q.1 q.2.1 q.2.2 else jX6_rowAt_92 g r0 y2 h else none else none else none
/-! FifthCard Pairing sortRows -/
def bX6_sortRows_39 (g : Zh) (r0 : Nat) (x2 : Int32) (x4 : Int32) (x5 : Int32) (h : Zh) : Option (Nat × Int32 × Zh) :=
  if x5 ≤ x2 then some (1, (x5, h)) else (zR h r0 8).bind fun r_10 => if zK g r_10 = 100 then if zin (x5 - ((1 : Int32))) (zL g r_10) then if (zI h r_10 (x5 - ((1 : Int32))).toNatClampNeg) ≤ x4 then some (1, (x5, h)) else (zR h r0 8).bind fun r_13 => (zR h r0 8).bind fun r_14 => if zK g r_14 = 100 then if zin (x5 - ((1 : Int32))) (zL g r_14) then if zK g r_13 = 100 then if zin x5 (zL g r_13) then zlet (zsI h r_13 x5.toNatClampNeg (zI h r_14 (x5 - ((1 : Int32))).toNatClampNeg)) fun h19 => zlet (x5 + (-1 : Int32)) fun y20 => some (0, (y20, h19)) else none else none else none else none else none else none
def kX6_sortRows_39 (g : Zh) (r0 : Nat) (x1 : Int32) (x2 : Int32) (x3 : Int32) (x4 : Int32) (e : Nat) (x5 : Int32) (h : Zh) : Option (Nat × Int32 × Zh) :=
  (zR h r0 8).bind fun r_21 => if zK g r_21 = 100 then if zin x5 (zL g r_21) then zlet (zsI h r_21 x5.toNatClampNeg x4) fun h24 => zlet (x3 + (1 : Int32)) fun y25 => some (0, (y25, h24)) else none else none
def bX6_sortRows_9 (g : Zh) (r0 : Nat) (x1 : Int32) (x2 : Int32) (x3 : Int32) (h : Zh) : Option (Nat × Int32 × Zh) :=
  if (zI h r0 6) ≤ x3 then some (1, (x3, h)) else zc2 (fX6_rowAt r0 x1 x3 h) fun v4 h3 => (zR h3 r0 8).bind fun r_5 => if zK g r_5 = 100 then if zin (x2 + x3) (zL g r_5) then zlet (zI h3 r_5 (x2 + x3).toNatClampNeg) fun y8 => zlet (x2 + x3) fun y9 => (lp (fun q : Int32 × Zh => bX6_sortRows_39 g r0 x2 y8 q.1 q.2) zB (y9, h3)).bind fun q => kX6_sortRows_39 g r0 x1 x2 x3 y8 q.1 q.2.1 q.2.2 else none else none
def kX6_sortRows_9 (g : Zh)  (e : Nat) (x3 : Int32) (h : Zh) : Option Zh :=
  some h
def fX6_sortRows (r0 : Nat) (x1 : Int32) (h : Zh) : Option Zh := zlet h fun g =>
  if zK g r0 = 6 then zlet (x1 * (zI h r0 6)) fun y2 => (lp (fun q : Int32 × Zh => bX6_sortRows_9 g r0 x1 y2 q.1 q.2) zB ((0 : Int32), h)).bind fun q => kX6_sortRows_9 g q.1 q.2.1 q.2.2 else none
/-! FifthCard Pairing hurry -/
def bX6_hurry_8 (g : Zh) (r0 : Nat) (x3 : Int32) (x4 : Int32) (x5 : Int32) (h : Zh) : Option (Nat × Int32 × Int32 × Int32 × Zh) :=
  if ((300 : Int32)) ≤ x5 then some (1, (x3, (x4, (x5, h)))) else if x3 < 0 then some (1, (x3, (x4, (x5, h)))) else if zK g r0 = 6 then (zR h r0 0).bind fun r_2 => if zK g r_2 = 100 then if zin x3 (zL g r_2) then zlet (zI h r_2 x3.toNatClampNeg) fun y5 => (zR h r0 0).bind fun r_6 => if zK g r_6 = 100 then if zin x3 (zL g r_6) then zlet (zsI h r_6 x3.toNatClampNeg x4) fun h9 => (zR h9 r0 9).bind fun r_10 => if zK g r_10 = 100 then if zin x4 (zL g r_10) then zlet (zsI h9 r_10 x4.toNatClampNeg (x3 + ((1 : Int32)))) fun h13 => (zR h13 r0 12).bind fun r_14 => if zK g r_14 = 100 then if zin x3 (zL g r_14) then zlet (zI h13 r_14 x3.toNatClampNeg) fun y17 => zlet (x5 + (1 : Int32)) fun y18 => some (0, (y17, (y5, (y18, h13)))) else none else none else none else none else none else none else none else none else none
def kX6_hurry_8 (g : Zh)  (e : Nat) (x3 : Int32) (x4 : Int32) (x5 : Int32) (h : Zh) : Option Zh :=
  some h
def fX6_hurry (r0 : Nat) (x1 : Int32) (x2 : Int32) (h : Zh) : Option Zh := zlet h fun g =>
  (lp (fun q : Int32 × Int32 × Int32 × Zh => bX6_hurry_8 g r0 q.1 q.2.1 q.2.2.1 q.2.2.2) zB (x1, (x2, ((0 : Int32), h)))).bind fun q => kX6_hurry_8 g q.1 q.2.1 q.2.2.1 q.2.2.2.1 q.2.2.2.2
/-! FifthCard Pairing rehome -/
def bX6_rehome_74 (g : Zh) (r0 : Nat) (x4 : Int32) (x6 : Int32) (x2 : Int32) (x7 : Int32) (h : Zh) : Option (Nat × Int32 × Int32 × Zh) :=
  (zR h r0 3).bind fun r_20 => if zK g r_20 = 0 then if (x6 + (zI h r_20 12)) ≤ x7 then some (2, (x2, (x7, h))) else (zR h r0 9).bind fun r_22 => if zK g r_22 = 100 then if zin x7 (zL g r_22) then zlet ((zI h r_22 x7.toNatClampNeg) - ((1 : Int32))) fun y25 => if 0 ≤ y25 then if y25 < (zI h r0 10) then zlet (x7 + (1 : Int32)) fun y26 => some (0, (x2, (y26, h))) else (zR h r0 13).bind fun r_27 => if zK g r_27 = 100 then if zin y25 (zL g r_27) then if (zI h r_27 y25.toNatClampNeg) = (zI h r0 14) then zlet (x7 + (1 : Int32)) fun y30 => some (0, (x2, (y30, h))) else if ((300 : Int32)) ≤ x2 then zlet (x7 + (1 : Int32)) fun y31 => some (0, (x2, (y31, h))) else (zR h r0 13).bind fun r_32 => if zK g r_32 = 100 then if zin y25 (zL g r_32) then zlet (zsI h r_32 y25.toNatClampNeg (zI h r0 14)) fun h35 => (zR h35 r0 12).bind fun r_36 => if zK g r_36 = 100 then if zin y25 (zL g r_36) then zlet (zsI h35 r_36 y25.toNatClampNeg x4) fun h39 => (zR h39 r0 11).bind fun r_40 => if zK g r_40 = 100 then if zin x2 (zL g r_40) then zlet (zsI h39 r_40 x2.toNatClampNeg y25) fun h43 => zlet (x2 + (1 : Int32)) fun y44 => zlet (x7 + (1 : Int32)) fun y45 => some (0, (y44, (y45, h43))) else none else none else none else none else none else none else none else none else some (1, (x2, (x7, h))) else none else none else none
def kX6_rehome_74 (g : Zh) (r0 : Nat) (x4 : Int32) (x5 : Int32) (e : Nat) (x2 : Int32) (x7 : Int32) (h : Zh) : Option (Nat × Int32 × Int32 × Int32 × Zh) :=
  if e = 1 then some (1, (0, (0, (x7, h)))) else zlet (x5 + (1 : Int32)) fun y46 => some (0, (x2, (y46, (0, h))))
def bX6_rehome_51 (g : Zh) (r0 : Nat) (x4 : Int32) (x2 : Int32) (x5 : Int32) (x7 : Int32) (h : Zh) : Option (Nat × Int32 × Int32 × Int32 × Zh) :=
  if (zI h r0 6) ≤ x5 then some (2, (x2, (x5, (0, h)))) else zc2 (fX6_rowAt r0 x4 x5 h) fun v19 h18 => (lp (fun q : Int32 × Int32 × Zh => bX6_rehome_74 g r0 x4 v19 q.1 q.2.1 q.2.2) zB (x2, (v19, h18))).bind fun q => kX6_rehome_74 g r0 x4 x5 q.1 q.2.1 q.2.2.1 q.2.2.2
def kX6_rehome_51 (g : Zh) (r0 : Nat) (x3 : Int32) (x4 : Int32) (e : Nat) (x2 : Int32) (x5 : Int32) (x7 : Int32) (h : Zh) : Option (Nat × Int32 × Int32 × Int32 × Int32 × Zh) :=
  if e = 1 then some (1, (0, (0, (x4, (x7, h))))) else zlet (x3 + (1 : Int32)) fun y47 => some (0, (x2, (y47, (0, (0, h)))))
def bX6_rehome_28 (g : Zh) (r0 : Nat) (x2 : Int32) (x3 : Int32) (x4 : Int32) (x7 : Int32) (h : Zh) : Option (Nat × Int32 × Int32 × Int32 × Int32 × Zh) :=
  if x2 ≤ x3 then some (2, (x2, (x3, (0, (0, h))))) else if ((300 : Int32)) ≤ x3 then some (2, (x2, (x3, (0, (0, h))))) else (zR h r0 11).bind fun r_14 => if zK g r_14 = 100 then if zin x3 (zL g r_14) then zlet (zI h r_14 x3.toNatClampNeg) fun y17 => (lp (fun q : Int32 × Int32 × Int32 × Zh => bX6_rehome_51 g r0 y17 q.1 q.2.1 q.2.2.1 q.2.2.2) zB (x2, ((0 : Int32), (0, h)))).bind fun q => kX6_rehome_51 g r0 x3 y17 q.1 q.2.1 q.2.2.1 q.2.2.2.1 q.2.2.2.2 else none else none
def kX6_rehome_28 (g : Zh) (r0 : Nat) (e : Nat) (x2 : Int32) (x3 : Int32) (x4 : Int32) (x7 : Int32) (h : Zh) : Option (Int32 × Zh) :=
  if e = 1 then (fX6_hurry r0 x4 x7 h).bind fun h48 => some ((1 : Int32), h48) else some ((0 : Int32), h)
def fX6_rehome (r0 : Nat) (x1 : Int32) (h : Zh) : Option (Int32 × Zh) := zlet h fun g =>
  if zK g r0 = 6 then (zR h r0 11).bind fun r_2 => if zK g r_2 = 100 then if zin ((0 : Int32)) (zL g r_2) then zlet (zsI h r_2 ((0 : Int32)).toNatClampNeg x1) fun h5 => (zR h5 r0 13).bind fun r_6 => if zK g r_6 = 100 then if zin x1 (zL g r_6) then zlet (zsI h5 r_6 x1.toNatClampNeg (zI h5 r0 14)) fun h9 => (zR h9 r0 12).bind fun r_10 => if zK g r_10 = 100 then if zin x1 (zL g r_10) then zlet (zsI h9 r_10 x1.toNatClampNeg ((-1 : Int32))) fun h13 => (lp (fun q : Int32 × Int32 × Int32 × Int32 × Zh => bX6_rehome_28 g r0 q.1 q.2.1 q.2.2.1 q.2.2.2.1 q.2.2.2.2) zB ((1 : Int32), ((0 : Int32), (0, (0, h13))))).bind fun q => kX6_rehome_28 g r0 q.1 q.2.1 q.2.2.1 q.2.2.2.1 q.2.2.2.2.1 q.2.2.2.2.2 else none else none else none else none else none else none else none
/-! FifthCard Pairing settleLeast -/
def bX6_settleLeast_49 (g : Zh) (r0 : Nat) (x1 : Int32) (x3 : Int32) (x4 : Int32) (h : Zh) : Option (Nat × Int32 × Zh) :=
  (zR h r0 3).bind fun r_13 => if zK g r_13 = 0 then if (x3 + (zI h r_13 12)) ≤ x4 then some (2, (x4, h)) else (zR h r0 9).bind fun r_15 => if zK g r_15 = 100 then if zin x4 (zL g r_15) then zlet ((zI h r_15 x4.toNatClampNeg) - ((1 : Int32))) fun y18 => if y18 < 0 then some (1, (x4, h)) else if y18 ≤ x1 then zlet (x4 + (1 : Int32)) fun y19 => some (0, (y19, h)) else (zR h r0 13).bind fun r_20 => if zK g r_20 = 100 then if zin y18 (zL g r_20) then if (zI h r_20 y18.toNatClampNeg) = (zI h r0 14) then zlet (x4 + (1 : Int32)) fun y23 => some (0, (y23, h)) else zc2 (fX6_rehome r0 y18 h) fun v25 h24 => if v25 = 0 then zlet (x4 + (1 : Int32)) fun y26 => some (0, (y26, h24)) else some (1, (x4, h24)) else none else none else none else none else none
def kX6_settleLeast_49 (g : Zh) (r0 : Nat) (x1 : Int32) (x2 : Int32) (e : Nat) (x4 : Int32) (h : Zh) : Option (Nat × Int32 × Int32 × Zh) :=
  if e = 1 then some (1, (0, (x4, h))) else zlet (x2 + (1 : Int32)) fun y27 => some (0, (y27, (0, h)))
def bX6_settleLeast_31 (g : Zh) (r0 : Nat) (x1 : Int32) (x2 : Int32) (x4 : Int32) (h : Zh) : Option (Nat × Int32 × Int32 × Zh) :=
  if (zI h r0 6) ≤ x2 then some (2, (x2, (0, h))) else zc2 (fX6_rowAt r0 x1 x2 h) fun v12 h11 => (lp (fun q : Int32 × Zh => bX6_settleLeast_49 g r0 x1 v12 q.1 q.2) zB (v12, h11)).bind fun q => kX6_settleLeast_49 g r0 x1 x2 q.1 q.2.1 q.2.2
def kX6_settleLeast_31 (g : Zh) (r0 : Nat) (x1 : Int32) (e : Nat) (x2 : Int32) (x4 : Int32) (h : Zh) : Option Zh :=
  if e = 1 then (zR h r0 0).bind fun r_28 => if zK g r_28 = 100 then if zin x1 (zL g r_28) then zlet (zsI h r_28 x1.toNatClampNeg x4) fun h31 => (zR h31 r0 9).bind fun r_32 => if zK g r_32 = 100 then if zin x4 (zL g r_32) then zlet (zsI h31 r_32 x4.toNatClampNeg (x1 + ((1 : Int32)))) fun h35 => some h35 else none else none else none else none else some h
def fX6_settleLeast (r0 : Nat) (x1 : Int32) (h : Zh) : Option Zh := zlet h fun g =>
  if zK g r0 = 6 then (zR h r0 9).bind fun r_2 => (zR h r0 0).bind fun r_3 => if zK g r_3 = 100 then if zin x1 (zL g r_3) then if zK g r_2 = 100 then if zin (zI h r_3 x1.toNatClampNeg) (zL g r_2) then zlet (zsI h r_2 (zI h r_3 x1.toNatClampNeg).toNatClampNeg ((0 : Int32))) fun h8 => zlet (zsI h8 r0 10 (x1 + ((1 : Int32)))) fun h9 => zlet (zsI h9 r0 14 ((zI h9 r0 14) + ((1 : Int32)))) fun h10 => (lp (fun q : Int32 × Int32 × Zh => bX6_settleLeast_31 g r0 x1 q.1 q.2.1 q.2.2) zB ((0 : Int32), (0, h10))).bind fun q => kX6_settleLeast_31 g r0 x1 q.1 q.2.1 q.2.2.1 q.2.2.2 else none else none else none else none else none
/-! FifthCard Reader fail -/
def fX7_fail (r0 : Nat) (x1 : Int32) (h : Zh) : Option (Int32 × Zh) := zlet h fun g =>
  if zK g r0 = 7 then zlet (zsI h r0 0 x1) fun h2 => zlet (zsI h2 r0 1 (zI h2 r0 9)) fun h3 => some ((0 : Int32), h3) else none
/-! FifthCard Reader runLength -/
def bX7_runLength_5 (g : Zh) (r0 : Nat) (x1 : Int32) (x2 : Int32)  (h : Zh) : Option (Nat × Zh) :=
  if (zI h r0 3) ≤ (zI h r0 10) then some (1, h) else (zR h r0 2).bind fun r_3 => if zK g r_3 = 101 then if zin (zI h r0 10) (zL g r_3) then if (zI h r_3 (zI h r0 10).toNatClampNeg) < x1 then some (1, h) else (zR h r0 2).bind fun r_6 => if zK g r_6 = 101 then if zin (zI h r0 10) (zL g r_6) then if x2 < (zI h r_6 (zI h r0 10).toNatClampNeg) then some (1, h) else (zR h r0 2).bind fun r_9 => if zK g r_9 = 101 then if zin (zI h r0 10) (zL g r_9) then zlet (zsI h r0 11 (((zI h r0 11) * ((10 : Int32))) + ((zI h r_9 (zI h r0 10).toNatClampNeg) - x1))) fun h12 => zlet (zsI h12 r0 10 ((zI h12 r0 10) + ((1 : Int32)))) fun h13 => some (0, h13) else none else none else none else none else none else none
def kX7_runLength_5 (g : Zh) (r0 : Nat) (e : Nat)  (h : Zh) : Option (Int32 × Zh) :=
  some ((zI h r0 10) - (zI h r0 9), h)
def fX7_runLength (r0 : Nat) (x1 : Int32) (x2 : Int32) (h : Zh) : Option (Int32 × Zh) := zlet h fun g =>
  if zK g r0 = 7 then zlet (zsI h r0 11 ((0 : Int32))) fun h2 => (lp (fun q : Zh => bX7_runLength_5 g r0 x1 x2 q) zB h2).bind fun q => kX7_runLength_5 g r0 q.1 q.2 else none
theorem dX6_rowAt_0 : decode cX6_rowAt 0 = .ok (.iload_n 1, 1) := by decide +kernel
theorem dX6_rowAt_1 : decode cX6_rowAt 1 = .ok (.aload_n 0, 1) := by decide +kernel
theorem dX6_rowAt_2 : decode cX6_rowAt 2 = .ok (.getfield 86, 3) := by decide +kernel
theorem dX6_rowAt_5 : decode cX6_rowAt 5 = .ok (.imul, 1) := by decide +kernel
theorem dX6_rowAt_6 : decode cX6_rowAt 6 = .ok (.iload_n 2, 1) := by decide +kernel
theorem dX6_rowAt_7 : decode cX6_rowAt 7 = .ok (.iadd, 1) := by decide +kernel
theorem dX6_rowAt_8 : decode cX6_rowAt 8 = .ok (.istore_n 3, 1) := by decide +kernel
theorem dX6_rowAt_9 : decode cX6_rowAt 9 = .ok (.aload_n 0, 1) := by decide +kernel
theorem dX6_rowAt_10 : decode cX6_rowAt 10 = .ok (.getfield 31, 3) := by decide +kernel
theorem dX6_rowAt_13 : decode cX6_rowAt 13 = .ok (.iload_n 3, 1) := by decide +kernel
theorem dX6_rowAt_14 : decode cX6_rowAt 14 = .ok (.iaload, 1) := by decide +kernel
theorem dX6_rowAt_15 : decode cX6_rowAt 15 = .ok (.ifCond .ne 77, 3) := by decide +kernel
theorem dX6_rowAt_18 : decode cX6_rowAt 18 = .ok (.iconst 0, 1) := by decide +kernel
theorem dX6_rowAt_19 : decode cX6_rowAt 19 = .ok (.istore 4, 2) := by decide +kernel
theorem dX6_rowAt_21 : decode cX6_rowAt 21 = .ok (.iload 4, 2) := by decide +kernel
theorem dX6_rowAt_23 : decode cX6_rowAt 23 = .ok (.aload_n 0, 1) := by decide +kernel
theorem dX6_rowAt_24 : decode cX6_rowAt 24 = .ok (.getfield 18, 3) := by decide +kernel
theorem dX6_rowAt_27 : decode cX6_rowAt 27 = .ok (.getfield 92, 3) := by decide +kernel
theorem dX6_rowAt_30 : decode cX6_rowAt 30 = .ok (.if_icmp .ge 36, 3) := by decide +kernel
theorem dX6_rowAt_33 : decode cX6_rowAt 33 = .ok (.aload_n 0, 1) := by decide +kernel
theorem dX6_rowAt_34 : decode cX6_rowAt 34 = .ok (.getfield 28, 3) := by decide +kernel
theorem dX6_rowAt_37 : decode cX6_rowAt 37 = .ok (.iload 4, 2) := by decide +kernel
theorem dX6_rowAt_39 : decode cX6_rowAt 39 = .ok (.aload_n 0, 1) := by decide +kernel
theorem dX6_rowAt_40 : decode cX6_rowAt 40 = .ok (.getfield 22, 3) := by decide +kernel
theorem dX6_rowAt_43 : decode cX6_rowAt 43 = .ok (.iload_n 1, 1) := by decide +kernel
theorem dX6_rowAt_44 : decode cX6_rowAt 44 = .ok (.iaload, 1) := by decide +kernel
theorem dX6_rowAt_45 : decode cX6_rowAt 45 = .ok (.aload_n 0, 1) := by decide +kernel
theorem dX6_rowAt_46 : decode cX6_rowAt 46 = .ok (.getfield 25, 3) := by decide +kernel
theorem dX6_rowAt_49 : decode cX6_rowAt 49 = .ok (.iload_n 2, 1) := by decide +kernel
theorem dX6_rowAt_50 : decode cX6_rowAt 50 = .ok (.iaload, 1) := by decide +kernel
theorem dX6_rowAt_51 : decode cX6_rowAt 51 = .ok (.iload 4, 2) := by decide +kernel
theorem dX6_rowAt_53 : decode cX6_rowAt 53 = .ok (.invokestatic 127, 3) := by decide +kernel
theorem dX6_rowAt_56 : decode cX6_rowAt 56 = .ok (.invokestatic 127, 3) := by decide +kernel
theorem dX6_rowAt_59 : decode cX6_rowAt 59 = .ok (.iastore, 1) := by decide +kernel
theorem dX6_rowAt_60 : decode cX6_rowAt 60 = .ok (.iinc 4 1, 3) := by decide +kernel
theorem dX6_rowAt_63 : decode cX6_rowAt 63 = .ok (.goto (-42), 3) := by decide +kernel
theorem dX6_rowAt_66 : decode cX6_rowAt 66 = .ok (.aload_n 0, 1) := by decide +kernel
theorem dX6_rowAt_67 : decode cX6_rowAt 67 = .ok (.getfield 31, 3) := by decide +kernel
theorem dX6_rowAt_70 : decode cX6_rowAt 70 = .ok (.iload_n 3, 1) := by decide +kernel
theorem dX6_rowAt_71 : decode cX6_rowAt 71 = .ok (.iconst 1, 1) := by decide +kernel
theorem dX6_rowAt_72 : decode cX6_rowAt 72 = .ok (.aload_n 0, 1) := by decide +kernel
theorem dX6_rowAt_73 : decode cX6_rowAt 73 = .ok (.getfield 18, 3) := by decide +kernel
theorem dX6_rowAt_76 : decode cX6_rowAt 76 = .ok (.aload_n 0, 1) := by decide +kernel
theorem dX6_rowAt_77 : decode cX6_rowAt 77 = .ok (.getfield 28, 3) := by decide +kernel
theorem dX6_rowAt_80 : decode cX6_rowAt 80 = .ok (.aload_n 0, 1) := by decide +kernel
theorem dX6_rowAt_81 : decode cX6_rowAt 81 = .ok (.getfield 18, 3) := by decide +kernel
theorem dX6_rowAt_84 : decode cX6_rowAt 84 = .ok (.getfield 92, 3) := by decide +kernel
theorem dX6_rowAt_87 : decode cX6_rowAt 87 = .ok (.invokevirtual 130, 3) := by decide +kernel
theorem dX6_rowAt_90 : decode cX6_rowAt 90 = .ok (.iadd, 1) := by decide +kernel
theorem dX6_rowAt_91 : decode cX6_rowAt 91 = .ok (.iastore, 1) := by decide +kernel
theorem dX6_rowAt_92 : decode cX6_rowAt 92 = .ok (.aload_n 0, 1) := by decide +kernel
theorem dX6_rowAt_93 : decode cX6_rowAt 93 = .ok (.getfield 31, 3) := by decide +kernel
theorem dX6_rowAt_96 : decode cX6_rowAt 96 = .ok (.iload_n 3, 1) := by decide +kernel
theorem dX6_rowAt_97 : decode cX6_rowAt 97 = .ok (.iaload, 1) := by decide +kernel
theorem dX6_rowAt_98 : decode cX6_rowAt 98 = .ok (.iconst 1, 1) := by decide +kernel
theorem dX6_rowAt_99 : decode cX6_rowAt 99 = .ok (.isub, 1) := by decide +kernel
theorem dX6_rowAt_100 : decode cX6_rowAt 100 = .ok (.aload_n 0, 1) := by decide +kernel
theorem dX6_rowAt_101 : decode cX6_rowAt 101 = .ok (.getfield 18, 3) := by decide +kernel
theorem dX6_rowAt_104 : decode cX6_rowAt 104 = .ok (.getfield 83, 3) := by decide +kernel
theorem dX6_rowAt_107 : decode cX6_rowAt 107 = .ok (.imul, 1) := by decide +kernel
theorem dX6_rowAt_108 : decode cX6_rowAt 108 = .ok (.ireturn, 1) := by decide +kernel
theorem dX6_sortRows_0 : decode cX6_sortRows 0 = .ok (.iload_n 1, 1) := by decide +kernel
theorem dX6_sortRows_1 : decode cX6_sortRows 1 = .ok (.aload_n 0, 1) := by decide +kernel
theorem dX6_sortRows_2 : decode cX6_sortRows 2 = .ok (.getfield 86, 3) := by decide +kernel
theorem dX6_sortRows_5 : decode cX6_sortRows 5 = .ok (.imul, 1) := by decide +kernel
theorem dX6_sortRows_6 : decode cX6_sortRows 6 = .ok (.istore_n 2, 1) := by decide +kernel
theorem dX6_sortRows_7 : decode cX6_sortRows 7 = .ok (.iconst 0, 1) := by decide +kernel
theorem dX6_sortRows_8 : decode cX6_sortRows 8 = .ok (.istore_n 3, 1) := by decide +kernel
theorem dX6_sortRows_9 : decode cX6_sortRows 9 = .ok (.iload_n 3, 1) := by decide +kernel
theorem dX6_sortRows_10 : decode cX6_sortRows 10 = .ok (.aload_n 0, 1) := by decide +kernel
theorem dX6_sortRows_11 : decode cX6_sortRows 11 = .ok (.getfield 86, 3) := by decide +kernel
theorem dX6_sortRows_14 : decode cX6_sortRows 14 = .ok (.if_icmp .ge 82, 3) := by decide +kernel
theorem dX6_sortRows_17 : decode cX6_sortRows 17 = .ok (.aload_n 0, 1) := by decide +kernel
theorem dX6_sortRows_18 : decode cX6_sortRows 18 = .ok (.iload_n 1, 1) := by decide +kernel
theorem dX6_sortRows_19 : decode cX6_sortRows 19 = .ok (.iload_n 3, 1) := by decide +kernel
theorem dX6_sortRows_20 : decode cX6_sortRows 20 = .ok (.invokevirtual 123, 3) := by decide +kernel
theorem dX6_sortRows_23 : decode cX6_sortRows 23 = .ok (.pop, 1) := by decide +kernel
theorem dX6_sortRows_24 : decode cX6_sortRows 24 = .ok (.aload_n 0, 1) := by decide +kernel
theorem dX6_sortRows_25 : decode cX6_sortRows 25 = .ok (.getfield 31, 3) := by decide +kernel
theorem dX6_sortRows_28 : decode cX6_sortRows 28 = .ok (.iload_n 2, 1) := by decide +kernel
theorem dX6_sortRows_29 : decode cX6_sortRows 29 = .ok (.iload_n 3, 1) := by decide +kernel
theorem dX6_sortRows_30 : decode cX6_sortRows 30 = .ok (.iadd, 1) := by decide +kernel
theorem dX6_sortRows_31 : decode cX6_sortRows 31 = .ok (.iaload, 1) := by decide +kernel
theorem dX6_sortRows_32 : decode cX6_sortRows 32 = .ok (.istore 4, 2) := by decide +kernel
theorem dX6_sortRows_34 : decode cX6_sortRows 34 = .ok (.iload_n 2, 1) := by decide +kernel
theorem dX6_sortRows_35 : decode cX6_sortRows 35 = .ok (.iload_n 3, 1) := by decide +kernel
theorem dX6_sortRows_36 : decode cX6_sortRows 36 = .ok (.iadd, 1) := by decide +kernel
theorem dX6_sortRows_37 : decode cX6_sortRows 37 = .ok (.istore 5, 2) := by decide +kernel
theorem dX6_sortRows_39 : decode cX6_sortRows 39 = .ok (.iload 5, 2) := by decide +kernel
theorem dX6_sortRows_41 : decode cX6_sortRows 41 = .ok (.iload_n 2, 1) := by decide +kernel
theorem dX6_sortRows_42 : decode cX6_sortRows 42 = .ok (.if_icmp .le 39, 3) := by decide +kernel
theorem dX6_sortRows_45 : decode cX6_sortRows 45 = .ok (.aload_n 0, 1) := by decide +kernel
theorem dX6_sortRows_46 : decode cX6_sortRows 46 = .ok (.getfield 31, 3) := by decide +kernel
theorem dX6_sortRows_49 : decode cX6_sortRows 49 = .ok (.iload 5, 2) := by decide +kernel
theorem dX6_sortRows_51 : decode cX6_sortRows 51 = .ok (.iconst 1, 1) := by decide +kernel
theorem dX6_sortRows_52 : decode cX6_sortRows 52 = .ok (.isub, 1) := by decide +kernel
theorem dX6_sortRows_53 : decode cX6_sortRows 53 = .ok (.iaload, 1) := by decide +kernel
theorem dX6_sortRows_54 : decode cX6_sortRows 54 = .ok (.iload 4, 2) := by decide +kernel
theorem dX6_sortRows_56 : decode cX6_sortRows 56 = .ok (.if_icmp .le 25, 3) := by decide +kernel
theorem dX6_sortRows_59 : decode cX6_sortRows 59 = .ok (.aload_n 0, 1) := by decide +kernel
theorem dX6_sortRows_60 : decode cX6_sortRows 60 = .ok (.getfield 31, 3) := by decide +kernel
theorem dX6_sortRows_63 : decode cX6_sortRows 63 = .ok (.iload 5, 2) := by decide +kernel
theorem dX6_sortRows_65 : decode cX6_sortRows 65 = .ok (.aload_n 0, 1) := by decide +kernel
theorem dX6_sortRows_66 : decode cX6_sortRows 66 = .ok (.getfield 31, 3) := by decide +kernel
theorem dX6_sortRows_69 : decode cX6_sortRows 69 = .ok (.iload 5, 2) := by decide +kernel
theorem dX6_sortRows_71 : decode cX6_sortRows 71 = .ok (.iconst 1, 1) := by decide +kernel
theorem dX6_sortRows_72 : decode cX6_sortRows 72 = .ok (.isub, 1) := by decide +kernel
theorem dX6_sortRows_73 : decode cX6_sortRows 73 = .ok (.iaload, 1) := by decide +kernel
theorem dX6_sortRows_74 : decode cX6_sortRows 74 = .ok (.iastore, 1) := by decide +kernel
theorem dX6_sortRows_75 : decode cX6_sortRows 75 = .ok (.iinc 5 (-1), 3) := by decide +kernel
theorem dX6_sortRows_78 : decode cX6_sortRows 78 = .ok (.goto (-39), 3) := by decide +kernel
theorem dX6_sortRows_81 : decode cX6_sortRows 81 = .ok (.aload_n 0, 1) := by decide +kernel
theorem dX6_sortRows_82 : decode cX6_sortRows 82 = .ok (.getfield 31, 3) := by decide +kernel
theorem dX6_sortRows_85 : decode cX6_sortRows 85 = .ok (.iload 5, 2) := by decide +kernel
theorem dX6_sortRows_87 : decode cX6_sortRows 87 = .ok (.iload 4, 2) := by decide +kernel
theorem dX6_sortRows_89 : decode cX6_sortRows 89 = .ok (.iastore, 1) := by decide +kernel
theorem dX6_sortRows_90 : decode cX6_sortRows 90 = .ok (.iinc 3 1, 3) := by decide +kernel
theorem dX6_sortRows_93 : decode cX6_sortRows 93 = .ok (.goto (-84), 3) := by decide +kernel
theorem dX6_sortRows_96 : decode cX6_sortRows 96 = .ok (.return_, 1) := by decide +kernel
theorem dX6_hurry_0 : decode cX6_hurry 0 = .ok (.iload_n 1, 1) := by decide +kernel
theorem dX6_hurry_1 : decode cX6_hurry 1 = .ok (.istore_n 3, 1) := by decide +kernel
theorem dX6_hurry_2 : decode cX6_hurry 2 = .ok (.iload_n 2, 1) := by decide +kernel
theorem dX6_hurry_3 : decode cX6_hurry 3 = .ok (.istore 4, 2) := by decide +kernel
theorem dX6_hurry_5 : decode cX6_hurry 5 = .ok (.iconst 0, 1) := by decide +kernel
theorem dX6_hurry_6 : decode cX6_hurry 6 = .ok (.istore 5, 2) := by decide +kernel
theorem dX6_hurry_8 : decode cX6_hurry 8 = .ok (.iload 5, 2) := by decide +kernel
theorem dX6_hurry_10 : decode cX6_hurry 10 = .ok (.sipush 300, 3) := by decide +kernel
theorem dX6_hurry_13 : decode cX6_hurry 13 = .ok (.if_icmp .ge 50, 3) := by decide +kernel
theorem dX6_hurry_16 : decode cX6_hurry 16 = .ok (.iload_n 3, 1) := by decide +kernel
theorem dX6_hurry_17 : decode cX6_hurry 17 = .ok (.ifCond .lt 46, 3) := by decide +kernel
theorem dX6_hurry_20 : decode cX6_hurry 20 = .ok (.aload_n 0, 1) := by decide +kernel
theorem dX6_hurry_21 : decode cX6_hurry 21 = .ok (.getfield 9, 3) := by decide +kernel
theorem dX6_hurry_24 : decode cX6_hurry 24 = .ok (.iload_n 3, 1) := by decide +kernel
theorem dX6_hurry_25 : decode cX6_hurry 25 = .ok (.iaload, 1) := by decide +kernel
theorem dX6_hurry_26 : decode cX6_hurry 26 = .ok (.istore 6, 2) := by decide +kernel
theorem dX6_hurry_28 : decode cX6_hurry 28 = .ok (.aload_n 0, 1) := by decide +kernel
theorem dX6_hurry_29 : decode cX6_hurry 29 = .ok (.getfield 9, 3) := by decide +kernel
theorem dX6_hurry_32 : decode cX6_hurry 32 = .ok (.iload_n 3, 1) := by decide +kernel
theorem dX6_hurry_33 : decode cX6_hurry 33 = .ok (.iload 4, 2) := by decide +kernel
theorem dX6_hurry_35 : decode cX6_hurry 35 = .ok (.iastore, 1) := by decide +kernel
theorem dX6_hurry_36 : decode cX6_hurry 36 = .ok (.aload_n 0, 1) := by decide +kernel
theorem dX6_hurry_37 : decode cX6_hurry 37 = .ok (.getfield 34, 3) := by decide +kernel
theorem dX6_hurry_40 : decode cX6_hurry 40 = .ok (.iload 4, 2) := by decide +kernel
theorem dX6_hurry_42 : decode cX6_hurry 42 = .ok (.iload_n 3, 1) := by decide +kernel
theorem dX6_hurry_43 : decode cX6_hurry 43 = .ok (.iconst 1, 1) := by decide +kernel
theorem dX6_hurry_44 : decode cX6_hurry 44 = .ok (.iadd, 1) := by decide +kernel
theorem dX6_hurry_45 : decode cX6_hurry 45 = .ok (.iastore, 1) := by decide +kernel
theorem dX6_hurry_46 : decode cX6_hurry 46 = .ok (.iload 6, 2) := by decide +kernel
theorem dX6_hurry_48 : decode cX6_hurry 48 = .ok (.istore 4, 2) := by decide +kernel
theorem dX6_hurry_50 : decode cX6_hurry 50 = .ok (.aload_n 0, 1) := by decide +kernel
theorem dX6_hurry_51 : decode cX6_hurry 51 = .ok (.getfield 40, 3) := by decide +kernel
theorem dX6_hurry_54 : decode cX6_hurry 54 = .ok (.iload_n 3, 1) := by decide +kernel
theorem dX6_hurry_55 : decode cX6_hurry 55 = .ok (.iaload, 1) := by decide +kernel
theorem dX6_hurry_56 : decode cX6_hurry 56 = .ok (.istore_n 3, 1) := by decide +kernel
theorem dX6_hurry_57 : decode cX6_hurry 57 = .ok (.iinc 5 1, 3) := by decide +kernel
theorem dX6_hurry_60 : decode cX6_hurry 60 = .ok (.goto (-52), 3) := by decide +kernel
theorem dX6_hurry_63 : decode cX6_hurry 63 = .ok (.return_, 1) := by decide +kernel
theorem dX6_rehome_0 : decode cX6_rehome 0 = .ok (.aload_n 0, 1) := by decide +kernel
theorem dX6_rehome_1 : decode cX6_rehome 1 = .ok (.getfield 37, 3) := by decide +kernel
theorem dX6_rehome_4 : decode cX6_rehome 4 = .ok (.iconst 0, 1) := by decide +kernel
theorem dX6_rehome_5 : decode cX6_rehome 5 = .ok (.iload_n 1, 1) := by decide +kernel
theorem dX6_rehome_6 : decode cX6_rehome 6 = .ok (.iastore, 1) := by decide +kernel
theorem dX6_rehome_7 : decode cX6_rehome 7 = .ok (.aload_n 0, 1) := by decide +kernel
theorem dX6_rehome_8 : decode cX6_rehome 8 = .ok (.getfield 43, 3) := by decide +kernel
theorem dX6_rehome_11 : decode cX6_rehome 11 = .ok (.iload_n 1, 1) := by decide +kernel
theorem dX6_rehome_12 : decode cX6_rehome 12 = .ok (.aload_n 0, 1) := by decide +kernel
theorem dX6_rehome_13 : decode cX6_rehome 13 = .ok (.getfield 68, 3) := by decide +kernel
theorem dX6_rehome_16 : decode cX6_rehome 16 = .ok (.iastore, 1) := by decide +kernel
theorem dX6_rehome_17 : decode cX6_rehome 17 = .ok (.aload_n 0, 1) := by decide +kernel
theorem dX6_rehome_18 : decode cX6_rehome 18 = .ok (.getfield 40, 3) := by decide +kernel
theorem dX6_rehome_21 : decode cX6_rehome 21 = .ok (.iload_n 1, 1) := by decide +kernel
theorem dX6_rehome_22 : decode cX6_rehome 22 = .ok (.iconst (-1), 1) := by decide +kernel
theorem dX6_rehome_23 : decode cX6_rehome 23 = .ok (.iastore, 1) := by decide +kernel
theorem dX6_rehome_24 : decode cX6_rehome 24 = .ok (.iconst 1, 1) := by decide +kernel
theorem dX6_rehome_25 : decode cX6_rehome 25 = .ok (.istore_n 2, 1) := by decide +kernel
theorem dX6_rehome_26 : decode cX6_rehome 26 = .ok (.iconst 0, 1) := by decide +kernel
theorem dX6_rehome_27 : decode cX6_rehome 27 = .ok (.istore_n 3, 1) := by decide +kernel
theorem dX6_rehome_28 : decode cX6_rehome 28 = .ok (.iload_n 3, 1) := by decide +kernel
theorem dX6_rehome_29 : decode cX6_rehome 29 = .ok (.iload_n 2, 1) := by decide +kernel
theorem dX6_rehome_30 : decode cX6_rehome 30 = .ok (.if_icmp .ge 164, 3) := by decide +kernel
theorem dX6_rehome_33 : decode cX6_rehome 33 = .ok (.iload_n 3, 1) := by decide +kernel
theorem dX6_rehome_34 : decode cX6_rehome 34 = .ok (.sipush 300, 3) := by decide +kernel
theorem dX6_rehome_37 : decode cX6_rehome 37 = .ok (.if_icmp .ge 157, 3) := by decide +kernel
theorem dX6_rehome_40 : decode cX6_rehome 40 = .ok (.aload_n 0, 1) := by decide +kernel
theorem dX6_rehome_41 : decode cX6_rehome 41 = .ok (.getfield 37, 3) := by decide +kernel
theorem dX6_rehome_44 : decode cX6_rehome 44 = .ok (.iload_n 3, 1) := by decide +kernel
theorem dX6_rehome_45 : decode cX6_rehome 45 = .ok (.iaload, 1) := by decide +kernel
theorem dX6_rehome_46 : decode cX6_rehome 46 = .ok (.istore 4, 2) := by decide +kernel
theorem dX6_rehome_48 : decode cX6_rehome 48 = .ok (.iconst 0, 1) := by decide +kernel
theorem dX6_rehome_49 : decode cX6_rehome 49 = .ok (.istore 5, 2) := by decide +kernel
theorem dX6_rehome_51 : decode cX6_rehome 51 = .ok (.iload 5, 2) := by decide +kernel
theorem dX6_rehome_53 : decode cX6_rehome 53 = .ok (.aload_n 0, 1) := by decide +kernel
theorem dX6_rehome_54 : decode cX6_rehome 54 = .ok (.getfield 86, 3) := by decide +kernel
theorem dX6_rehome_57 : decode cX6_rehome 57 = .ok (.if_icmp .ge 131, 3) := by decide +kernel
theorem dX6_rehome_60 : decode cX6_rehome 60 = .ok (.aload_n 0, 1) := by decide +kernel
theorem dX6_rehome_61 : decode cX6_rehome 61 = .ok (.iload 4, 2) := by decide +kernel
theorem dX6_rehome_63 : decode cX6_rehome 63 = .ok (.iload 5, 2) := by decide +kernel
theorem dX6_rehome_65 : decode cX6_rehome 65 = .ok (.invokevirtual 123, 3) := by decide +kernel
theorem dX6_rehome_68 : decode cX6_rehome 68 = .ok (.istore 6, 2) := by decide +kernel
theorem dX6_rehome_70 : decode cX6_rehome 70 = .ok (.iload 6, 2) := by decide +kernel
theorem dX6_rehome_72 : decode cX6_rehome 72 = .ok (.istore 7, 2) := by decide +kernel
theorem dX6_rehome_74 : decode cX6_rehome 74 = .ok (.iload 7, 2) := by decide +kernel
theorem dX6_rehome_76 : decode cX6_rehome 76 = .ok (.iload 6, 2) := by decide +kernel
theorem dX6_rehome_78 : decode cX6_rehome 78 = .ok (.aload_n 0, 1) := by decide +kernel
theorem dX6_rehome_79 : decode cX6_rehome 79 = .ok (.getfield 18, 3) := by decide +kernel
theorem dX6_rehome_82 : decode cX6_rehome 82 = .ok (.getfield 83, 3) := by decide +kernel
theorem dX6_rehome_85 : decode cX6_rehome 85 = .ok (.iadd, 1) := by decide +kernel
theorem dX6_rehome_86 : decode cX6_rehome 86 = .ok (.if_icmp .ge 96, 3) := by decide +kernel
theorem dX6_rehome_89 : decode cX6_rehome 89 = .ok (.aload_n 0, 1) := by decide +kernel
theorem dX6_rehome_90 : decode cX6_rehome 90 = .ok (.getfield 34, 3) := by decide +kernel
theorem dX6_rehome_93 : decode cX6_rehome 93 = .ok (.iload 7, 2) := by decide +kernel
theorem dX6_rehome_95 : decode cX6_rehome 95 = .ok (.iaload, 1) := by decide +kernel
theorem dX6_rehome_96 : decode cX6_rehome 96 = .ok (.iconst 1, 1) := by decide +kernel
theorem dX6_rehome_97 : decode cX6_rehome 97 = .ok (.isub, 1) := by decide +kernel
theorem dX6_rehome_98 : decode cX6_rehome 98 = .ok (.istore 8, 2) := by decide +kernel
theorem dX6_rehome_100 : decode cX6_rehome 100 = .ok (.iload 8, 2) := by decide +kernel
theorem dX6_rehome_102 : decode cX6_rehome 102 = .ok (.ifCond .ge 13, 3) := by decide +kernel
theorem dX6_rehome_105 : decode cX6_rehome 105 = .ok (.aload_n 0, 1) := by decide +kernel
theorem dX6_rehome_106 : decode cX6_rehome 106 = .ok (.iload 4, 2) := by decide +kernel
theorem dX6_rehome_108 : decode cX6_rehome 108 = .ok (.iload 7, 2) := by decide +kernel
theorem dX6_rehome_110 : decode cX6_rehome 110 = .ok (.invokevirtual 134, 3) := by decide +kernel
theorem dX6_rehome_113 : decode cX6_rehome 113 = .ok (.iconst 1, 1) := by decide +kernel
theorem dX6_rehome_114 : decode cX6_rehome 114 = .ok (.ireturn, 1) := by decide +kernel
theorem dX6_rehome_115 : decode cX6_rehome 115 = .ok (.iload 8, 2) := by decide +kernel
theorem dX6_rehome_117 : decode cX6_rehome 117 = .ok (.aload_n 0, 1) := by decide +kernel
theorem dX6_rehome_118 : decode cX6_rehome 118 = .ok (.getfield 114, 3) := by decide +kernel
theorem dX6_rehome_121 : decode cX6_rehome 121 = .ok (.if_icmp .lt 55, 3) := by decide +kernel
theorem dX6_rehome_124 : decode cX6_rehome 124 = .ok (.aload_n 0, 1) := by decide +kernel
theorem dX6_rehome_125 : decode cX6_rehome 125 = .ok (.getfield 43, 3) := by decide +kernel
theorem dX6_rehome_128 : decode cX6_rehome 128 = .ok (.iload 8, 2) := by decide +kernel
theorem dX6_rehome_130 : decode cX6_rehome 130 = .ok (.iaload, 1) := by decide +kernel
theorem dX6_rehome_131 : decode cX6_rehome 131 = .ok (.aload_n 0, 1) := by decide +kernel
theorem dX6_rehome_132 : decode cX6_rehome 132 = .ok (.getfield 68, 3) := by decide +kernel
theorem dX6_rehome_135 : decode cX6_rehome 135 = .ok (.if_icmp .eq 41, 3) := by decide +kernel
theorem dX6_rehome_138 : decode cX6_rehome 138 = .ok (.iload_n 2, 1) := by decide +kernel
theorem dX6_rehome_139 : decode cX6_rehome 139 = .ok (.sipush 300, 3) := by decide +kernel
theorem dX6_rehome_142 : decode cX6_rehome 142 = .ok (.if_icmp .ge 34, 3) := by decide +kernel
theorem dX6_rehome_145 : decode cX6_rehome 145 = .ok (.aload_n 0, 1) := by decide +kernel
theorem dX6_rehome_146 : decode cX6_rehome 146 = .ok (.getfield 43, 3) := by decide +kernel
theorem dX6_rehome_149 : decode cX6_rehome 149 = .ok (.iload 8, 2) := by decide +kernel
theorem dX6_rehome_151 : decode cX6_rehome 151 = .ok (.aload_n 0, 1) := by decide +kernel
theorem dX6_rehome_152 : decode cX6_rehome 152 = .ok (.getfield 68, 3) := by decide +kernel
theorem dX6_rehome_155 : decode cX6_rehome 155 = .ok (.iastore, 1) := by decide +kernel
theorem dX6_rehome_156 : decode cX6_rehome 156 = .ok (.aload_n 0, 1) := by decide +kernel
theorem dX6_rehome_157 : decode cX6_rehome 157 = .ok (.getfield 40, 3) := by decide +kernel
theorem dX6_rehome_160 : decode cX6_rehome 160 = .ok (.iload 8, 2) := by decide +kernel
theorem dX6_rehome_162 : decode cX6_rehome 162 = .ok (.iload 4, 2) := by decide +kernel
theorem dX6_rehome_164 : decode cX6_rehome 164 = .ok (.iastore, 1) := by decide +kernel
theorem dX6_rehome_165 : decode cX6_rehome 165 = .ok (.aload_n 0, 1) := by decide +kernel
theorem dX6_rehome_166 : decode cX6_rehome 166 = .ok (.getfield 37, 3) := by decide +kernel
theorem dX6_rehome_169 : decode cX6_rehome 169 = .ok (.iload_n 2, 1) := by decide +kernel
theorem dX6_rehome_170 : decode cX6_rehome 170 = .ok (.iload 8, 2) := by decide +kernel
theorem dX6_rehome_172 : decode cX6_rehome 172 = .ok (.iastore, 1) := by decide +kernel
theorem dX6_rehome_173 : decode cX6_rehome 173 = .ok (.iinc 2 1, 3) := by decide +kernel
theorem dX6_rehome_176 : decode cX6_rehome 176 = .ok (.iinc 7 1, 3) := by decide +kernel
theorem dX6_rehome_179 : decode cX6_rehome 179 = .ok (.goto (-105), 3) := by decide +kernel
theorem dX6_rehome_182 : decode cX6_rehome 182 = .ok (.iinc 5 1, 3) := by decide +kernel
theorem dX6_rehome_185 : decode cX6_rehome 185 = .ok (.goto (-134), 3) := by decide +kernel
theorem dX6_rehome_188 : decode cX6_rehome 188 = .ok (.iinc 3 1, 3) := by decide +kernel
theorem dX6_rehome_191 : decode cX6_rehome 191 = .ok (.goto (-163), 3) := by decide +kernel
theorem dX6_rehome_194 : decode cX6_rehome 194 = .ok (.iconst 0, 1) := by decide +kernel
theorem dX6_rehome_195 : decode cX6_rehome 195 = .ok (.ireturn, 1) := by decide +kernel
theorem dX6_settleLeast_0 : decode cX6_settleLeast 0 = .ok (.aload_n 0, 1) := by decide +kernel
theorem dX6_settleLeast_1 : decode cX6_settleLeast 1 = .ok (.getfield 34, 3) := by decide +kernel
theorem dX6_settleLeast_4 : decode cX6_settleLeast 4 = .ok (.aload_n 0, 1) := by decide +kernel
theorem dX6_settleLeast_5 : decode cX6_settleLeast 5 = .ok (.getfield 9, 3) := by decide +kernel
theorem dX6_settleLeast_8 : decode cX6_settleLeast 8 = .ok (.iload_n 1, 1) := by decide +kernel
theorem dX6_settleLeast_9 : decode cX6_settleLeast 9 = .ok (.iaload, 1) := by decide +kernel
theorem dX6_settleLeast_10 : decode cX6_settleLeast 10 = .ok (.iconst 0, 1) := by decide +kernel
theorem dX6_settleLeast_11 : decode cX6_settleLeast 11 = .ok (.iastore, 1) := by decide +kernel
theorem dX6_settleLeast_12 : decode cX6_settleLeast 12 = .ok (.aload_n 0, 1) := by decide +kernel
theorem dX6_settleLeast_13 : decode cX6_settleLeast 13 = .ok (.iload_n 1, 1) := by decide +kernel
theorem dX6_settleLeast_14 : decode cX6_settleLeast 14 = .ok (.iconst 1, 1) := by decide +kernel
theorem dX6_settleLeast_15 : decode cX6_settleLeast 15 = .ok (.iadd, 1) := by decide +kernel
theorem dX6_settleLeast_16 : decode cX6_settleLeast 16 = .ok (.putfield 114, 3) := by decide +kernel
theorem dX6_settleLeast_19 : decode cX6_settleLeast 19 = .ok (.aload_n 0, 1) := by decide +kernel
theorem dX6_settleLeast_20 : decode cX6_settleLeast 20 = .ok (.dup, 1) := by decide +kernel
theorem dX6_settleLeast_21 : decode cX6_settleLeast 21 = .ok (.getfield 68, 3) := by decide +kernel
theorem dX6_settleLeast_24 : decode cX6_settleLeast 24 = .ok (.iconst 1, 1) := by decide +kernel
theorem dX6_settleLeast_25 : decode cX6_settleLeast 25 = .ok (.iadd, 1) := by decide +kernel
theorem dX6_settleLeast_26 : decode cX6_settleLeast 26 = .ok (.putfield 68, 3) := by decide +kernel
theorem dX6_settleLeast_29 : decode cX6_settleLeast 29 = .ok (.iconst 0, 1) := by decide +kernel
theorem dX6_settleLeast_30 : decode cX6_settleLeast 30 = .ok (.istore_n 2, 1) := by decide +kernel
theorem dX6_settleLeast_31 : decode cX6_settleLeast 31 = .ok (.iload_n 2, 1) := by decide +kernel
theorem dX6_settleLeast_32 : decode cX6_settleLeast 32 = .ok (.aload_n 0, 1) := by decide +kernel
theorem dX6_settleLeast_33 : decode cX6_settleLeast 33 = .ok (.getfield 86, 3) := by decide +kernel
theorem dX6_settleLeast_36 : decode cX6_settleLeast 36 = .ok (.if_icmp .ge 103, 3) := by decide +kernel
theorem dX6_settleLeast_39 : decode cX6_settleLeast 39 = .ok (.aload_n 0, 1) := by decide +kernel
theorem dX6_settleLeast_40 : decode cX6_settleLeast 40 = .ok (.iload_n 1, 1) := by decide +kernel
theorem dX6_settleLeast_41 : decode cX6_settleLeast 41 = .ok (.iload_n 2, 1) := by decide +kernel
theorem dX6_settleLeast_42 : decode cX6_settleLeast 42 = .ok (.invokevirtual 123, 3) := by decide +kernel
theorem dX6_settleLeast_45 : decode cX6_settleLeast 45 = .ok (.istore_n 3, 1) := by decide +kernel
theorem dX6_settleLeast_46 : decode cX6_settleLeast 46 = .ok (.iload_n 3, 1) := by decide +kernel
theorem dX6_settleLeast_47 : decode cX6_settleLeast 47 = .ok (.istore 4, 2) := by decide +kernel
theorem dX6_settleLeast_49 : decode cX6_settleLeast 49 = .ok (.iload 4, 2) := by decide +kernel
theorem dX6_settleLeast_51 : decode cX6_settleLeast 51 = .ok (.iload_n 3, 1) := by decide +kernel
theorem dX6_settleLeast_52 : decode cX6_settleLeast 52 = .ok (.aload_n 0, 1) := by decide +kernel
theorem dX6_settleLeast_53 : decode cX6_settleLeast 53 = .ok (.getfield 18, 3) := by decide +kernel
theorem dX6_settleLeast_56 : decode cX6_settleLeast 56 = .ok (.getfield 83, 3) := by decide +kernel
theorem dX6_settleLeast_59 : decode cX6_settleLeast 59 = .ok (.iadd, 1) := by decide +kernel
theorem dX6_settleLeast_60 : decode cX6_settleLeast 60 = .ok (.if_icmp .ge 73, 3) := by decide +kernel
theorem dX6_settleLeast_63 : decode cX6_settleLeast 63 = .ok (.aload_n 0, 1) := by decide +kernel
theorem dX6_settleLeast_64 : decode cX6_settleLeast 64 = .ok (.getfield 34, 3) := by decide +kernel
theorem dX6_settleLeast_67 : decode cX6_settleLeast 67 = .ok (.iload 4, 2) := by decide +kernel
theorem dX6_settleLeast_69 : decode cX6_settleLeast 69 = .ok (.iaload, 1) := by decide +kernel
theorem dX6_settleLeast_70 : decode cX6_settleLeast 70 = .ok (.iconst 1, 1) := by decide +kernel
theorem dX6_settleLeast_71 : decode cX6_settleLeast 71 = .ok (.isub, 1) := by decide +kernel
theorem dX6_settleLeast_72 : decode cX6_settleLeast 72 = .ok (.istore 5, 2) := by decide +kernel
theorem dX6_settleLeast_74 : decode cX6_settleLeast 74 = .ok (.iload 5, 2) := by decide +kernel
theorem dX6_settleLeast_76 : decode cX6_settleLeast 76 = .ok (.ifCond .lt 32, 3) := by decide +kernel
theorem dX6_settleLeast_79 : decode cX6_settleLeast 79 = .ok (.iload 5, 2) := by decide +kernel
theorem dX6_settleLeast_81 : decode cX6_settleLeast 81 = .ok (.iload_n 1, 1) := by decide +kernel
theorem dX6_settleLeast_82 : decode cX6_settleLeast 82 = .ok (.if_icmp .le 45, 3) := by decide +kernel
theorem dX6_settleLeast_85 : decode cX6_settleLeast 85 = .ok (.aload_n 0, 1) := by decide +kernel
theorem dX6_settleLeast_86 : decode cX6_settleLeast 86 = .ok (.getfield 43, 3) := by decide +kernel
theorem dX6_settleLeast_89 : decode cX6_settleLeast 89 = .ok (.iload 5, 2) := by decide +kernel
theorem dX6_settleLeast_91 : decode cX6_settleLeast 91 = .ok (.iaload, 1) := by decide +kernel
theorem dX6_settleLeast_92 : decode cX6_settleLeast 92 = .ok (.aload_n 0, 1) := by decide +kernel
theorem dX6_settleLeast_93 : decode cX6_settleLeast 93 = .ok (.getfield 68, 3) := by decide +kernel
theorem dX6_settleLeast_96 : decode cX6_settleLeast 96 = .ok (.if_icmp .eq 31, 3) := by decide +kernel
theorem dX6_settleLeast_99 : decode cX6_settleLeast 99 = .ok (.aload_n 0, 1) := by decide +kernel
theorem dX6_settleLeast_100 : decode cX6_settleLeast 100 = .ok (.iload 5, 2) := by decide +kernel
theorem dX6_settleLeast_102 : decode cX6_settleLeast 102 = .ok (.invokevirtual 71, 3) := by decide +kernel
theorem dX6_settleLeast_105 : decode cX6_settleLeast 105 = .ok (.ifCond .eq 22, 3) := by decide +kernel
theorem dX6_settleLeast_108 : decode cX6_settleLeast 108 = .ok (.aload_n 0, 1) := by decide +kernel
theorem dX6_settleLeast_109 : decode cX6_settleLeast 109 = .ok (.getfield 9, 3) := by decide +kernel
theorem dX6_settleLeast_112 : decode cX6_settleLeast 112 = .ok (.iload_n 1, 1) := by decide +kernel
theorem dX6_settleLeast_113 : decode cX6_settleLeast 113 = .ok (.iload 4, 2) := by decide +kernel
theorem dX6_settleLeast_115 : decode cX6_settleLeast 115 = .ok (.iastore, 1) := by decide +kernel
theorem dX6_settleLeast_116 : decode cX6_settleLeast 116 = .ok (.aload_n 0, 1) := by decide +kernel
theorem dX6_settleLeast_117 : decode cX6_settleLeast 117 = .ok (.getfield 34, 3) := by decide +kernel
theorem dX6_settleLeast_120 : decode cX6_settleLeast 120 = .ok (.iload 4, 2) := by decide +kernel
theorem dX6_settleLeast_122 : decode cX6_settleLeast 122 = .ok (.iload_n 1, 1) := by decide +kernel
theorem dX6_settleLeast_123 : decode cX6_settleLeast 123 = .ok (.iconst 1, 1) := by decide +kernel
theorem dX6_settleLeast_124 : decode cX6_settleLeast 124 = .ok (.iadd, 1) := by decide +kernel
theorem dX6_settleLeast_125 : decode cX6_settleLeast 125 = .ok (.iastore, 1) := by decide +kernel
theorem dX6_settleLeast_126 : decode cX6_settleLeast 126 = .ok (.return_, 1) := by decide +kernel
theorem dX6_settleLeast_127 : decode cX6_settleLeast 127 = .ok (.iinc 4 1, 3) := by decide +kernel
theorem dX6_settleLeast_130 : decode cX6_settleLeast 130 = .ok (.goto (-81), 3) := by decide +kernel
theorem dX6_settleLeast_133 : decode cX6_settleLeast 133 = .ok (.iinc 2 1, 3) := by decide +kernel
theorem dX6_settleLeast_136 : decode cX6_settleLeast 136 = .ok (.goto (-105), 3) := by decide +kernel
theorem dX6_settleLeast_139 : decode cX6_settleLeast 139 = .ok (.return_, 1) := by decide +kernel
theorem dX7_fail_0 : decode cX7_fail 0 = .ok (.aload_n 0, 1) := by decide +kernel
theorem dX7_fail_1 : decode cX7_fail 1 = .ok (.iload_n 1, 1) := by decide +kernel
theorem dX7_fail_2 : decode cX7_fail 2 = .ok (.putfield 45, 3) := by decide +kernel
theorem dX7_fail_5 : decode cX7_fail 5 = .ok (.aload_n 0, 1) := by decide +kernel
theorem dX7_fail_6 : decode cX7_fail 6 = .ok (.aload_n 0, 1) := by decide +kernel
theorem dX7_fail_7 : decode cX7_fail 7 = .ok (.getfield 68, 3) := by decide +kernel
theorem dX7_fail_10 : decode cX7_fail 10 = .ok (.putfield 48, 3) := by decide +kernel
theorem dX7_fail_13 : decode cX7_fail 13 = .ok (.iconst 0, 1) := by decide +kernel
theorem dX7_fail_14 : decode cX7_fail 14 = .ok (.ireturn, 1) := by decide +kernel
theorem dX7_runLength_0 : decode cX7_runLength 0 = .ok (.aload_n 0, 1) := by decide +kernel
theorem dX7_runLength_1 : decode cX7_runLength 1 = .ok (.iconst 0, 1) := by decide +kernel
theorem dX7_runLength_2 : decode cX7_runLength 2 = .ok (.putfield 74, 3) := by decide +kernel
theorem dX7_runLength_5 : decode cX7_runLength 5 = .ok (.aload_n 0, 1) := by decide +kernel
theorem dX7_runLength_6 : decode cX7_runLength 6 = .ok (.getfield 51, 3) := by decide +kernel
theorem dX7_runLength_9 : decode cX7_runLength 9 = .ok (.aload_n 0, 1) := by decide +kernel
theorem dX7_runLength_10 : decode cX7_runLength 10 = .ok (.getfield 38, 3) := by decide +kernel
theorem dX7_runLength_13 : decode cX7_runLength 13 = .ok (.if_icmp .ge 65, 3) := by decide +kernel
theorem dX7_runLength_16 : decode cX7_runLength 16 = .ok (.aload_n 0, 1) := by decide +kernel
theorem dX7_runLength_17 : decode cX7_runLength 17 = .ok (.getfield 9, 3) := by decide +kernel
theorem dX7_runLength_20 : decode cX7_runLength 20 = .ok (.aload_n 0, 1) := by decide +kernel
theorem dX7_runLength_21 : decode cX7_runLength 21 = .ok (.getfield 51, 3) := by decide +kernel
theorem dX7_runLength_24 : decode cX7_runLength 24 = .ok (.baload, 1) := by decide +kernel
theorem dX7_runLength_25 : decode cX7_runLength 25 = .ok (.iload_n 1, 1) := by decide +kernel
theorem dX7_runLength_26 : decode cX7_runLength 26 = .ok (.if_icmp .lt 52, 3) := by decide +kernel
theorem dX7_runLength_29 : decode cX7_runLength 29 = .ok (.aload_n 0, 1) := by decide +kernel
theorem dX7_runLength_30 : decode cX7_runLength 30 = .ok (.getfield 9, 3) := by decide +kernel
theorem dX7_runLength_33 : decode cX7_runLength 33 = .ok (.aload_n 0, 1) := by decide +kernel
theorem dX7_runLength_34 : decode cX7_runLength 34 = .ok (.getfield 51, 3) := by decide +kernel
theorem dX7_runLength_37 : decode cX7_runLength 37 = .ok (.baload, 1) := by decide +kernel
theorem dX7_runLength_38 : decode cX7_runLength 38 = .ok (.iload_n 2, 1) := by decide +kernel
theorem dX7_runLength_39 : decode cX7_runLength 39 = .ok (.if_icmp .gt 39, 3) := by decide +kernel
theorem dX7_runLength_42 : decode cX7_runLength 42 = .ok (.aload_n 0, 1) := by decide +kernel
theorem dX7_runLength_43 : decode cX7_runLength 43 = .ok (.aload_n 0, 1) := by decide +kernel
theorem dX7_runLength_44 : decode cX7_runLength 44 = .ok (.getfield 74, 3) := by decide +kernel
theorem dX7_runLength_47 : decode cX7_runLength 47 = .ok (.bipush 10, 2) := by decide +kernel
theorem dX7_runLength_49 : decode cX7_runLength 49 = .ok (.imul, 1) := by decide +kernel
theorem dX7_runLength_50 : decode cX7_runLength 50 = .ok (.aload_n 0, 1) := by decide +kernel
theorem dX7_runLength_51 : decode cX7_runLength 51 = .ok (.getfield 9, 3) := by decide +kernel
theorem dX7_runLength_54 : decode cX7_runLength 54 = .ok (.aload_n 0, 1) := by decide +kernel
theorem dX7_runLength_55 : decode cX7_runLength 55 = .ok (.getfield 51, 3) := by decide +kernel
theorem dX7_runLength_58 : decode cX7_runLength 58 = .ok (.baload, 1) := by decide +kernel
theorem dX7_runLength_59 : decode cX7_runLength 59 = .ok (.iload_n 1, 1) := by decide +kernel
theorem dX7_runLength_60 : decode cX7_runLength 60 = .ok (.isub, 1) := by decide +kernel
theorem dX7_runLength_61 : decode cX7_runLength 61 = .ok (.iadd, 1) := by decide +kernel
theorem dX7_runLength_62 : decode cX7_runLength 62 = .ok (.putfield 74, 3) := by decide +kernel
theorem dX7_runLength_65 : decode cX7_runLength 65 = .ok (.aload_n 0, 1) := by decide +kernel
theorem dX7_runLength_66 : decode cX7_runLength 66 = .ok (.dup, 1) := by decide +kernel
theorem dX7_runLength_67 : decode cX7_runLength 67 = .ok (.getfield 51, 3) := by decide +kernel
theorem dX7_runLength_70 : decode cX7_runLength 70 = .ok (.iconst 1, 1) := by decide +kernel
theorem dX7_runLength_71 : decode cX7_runLength 71 = .ok (.iadd, 1) := by decide +kernel
theorem dX7_runLength_72 : decode cX7_runLength 72 = .ok (.putfield 51, 3) := by decide +kernel
theorem dX7_runLength_75 : decode cX7_runLength 75 = .ok (.goto (-70), 3) := by decide +kernel
theorem dX7_runLength_78 : decode cX7_runLength 78 = .ok (.aload_n 0, 1) := by decide +kernel
theorem dX7_runLength_79 : decode cX7_runLength 79 = .ok (.getfield 51, 3) := by decide +kernel
theorem dX7_runLength_82 : decode cX7_runLength 82 = .ok (.aload_n 0, 1) := by decide +kernel
theorem dX7_runLength_83 : decode cX7_runLength 83 = .ok (.getfield 68, 3) := by decide +kernel
theorem dX7_runLength_86 : decode cX7_runLength 86 = .ok (.isub, 1) := by decide +kernel
theorem dX7_runLength_87 : decode cX7_runLength 87 = .ok (.ireturn, 1) := by decide +kernel
set_option maxHeartbeats 4000000 in
set_option maxRecDepth 100000 in
theorem sX6_rowAt {l : Launch} {D : va_G} {cA : Nat → ClassId} {base : Nat} {sA : Nat → Nat} {r0 : Nat} {x1 : Int32} {x2 : Int32} {h hE : Zh} {rE : Int32} (hf : fX6_rowAt r0 x1 x2 h = some (rE, hE)) : zC l yX6_rowAt cX6_rowAt 5 (some .int) 2 46 D cA base sA [.ref (base + r0), .int x1, .int x2] h (some (.int rE)) hE := by
  refine g_entry RX6 (by decide) rfl (Nat.le_of_ble_eq_true rfl) ?_
  intro p e s m args below meth c X hr
  unfold fX6_rowAt at hf
  have hf := zlet_n (x := h) rfl hf
  show zG p l e { frames := 2, cells := 0, slots := 0, locals := 46 } s m args below meth c (MQ below (zQ D cA base h hE (some (.int rE))) args s 0 0 (zA base)) 5 D cA base h 0 [(0, .ref (base + r0)), (1, .int x1), (2, .int x2)] [] h
  refine g_iload_n X 1 dX6_rowAt_0 rfl ?_
  refine g_aload_n X 0 dX6_rowAt_1 rfl ?_
  obtain ⟨hk1, hf⟩ := zite hf
  refine g_get X zf6 hk1 6 (by decide) w_f_RX6_86 rfl rfl dX6_rowAt_2 ?_
  refine g_imul X dX6_rowAt_5 ?_
  refine g_iload_n X 2 dX6_rowAt_6 rfl ?_
  refine g_iadd X dX6_rowAt_7 ?_
  refine g_topi (fun y2 ey2 => ?_)
  have hf := zlet_n ey2 hf
  refine g_istore_n X [(3, .int y2), (0, .ref (base + r0)), (1, .int x1), (2, .int x2)] dX6_rowAt_8 (by decide) rfl ?_
  refine g_aload_n X 1 dX6_rowAt_9 rfl ?_
  obtain ⟨r_3, hr_3, hf⟩ := zbd hf
  refine g_get X zf6 hk1 8 (by decide) w_f_RX6_31 rfl (zfv_r hr_3 rfl) dX6_rowAt_10 ?_
  refine g_iload_n X 0 dX6_rowAt_13 rfl ?_
  obtain ⟨hk4, hf⟩ := zite hf
  obtain ⟨hi5, hf⟩ := zite hf
  refine g_iald X hk4 hi5 dX6_rowAt_14 ?_
  have hJ92 : ∀ (x3_92 : Int32) (h_92 : Zh), jX6_rowAt_92 h r0 x3_92 h_92 = some (rE, hE) → zG p l e { frames := 2, cells := 0, slots := 0, locals := 46 } s m args below meth c (MQ below (zQ D cA base h hE (some (.int rE))) args s 0 0 (zA base)) 5 D cA base h 92 [(0, .ref (base + r0)), (3, .int x3_92)] [] h_92 := by
    intro x3_92 h_92 hf
    unfold jX6_rowAt_92 at hf
    refine g_aload_n X 0 dX6_rowAt_92 rfl ?_
    obtain ⟨r_6, hr_6, hf⟩ := zbd hf
    refine g_get X zf6 hk1 8 (by decide) w_f_RX6_31 rfl (zfv_r hr_6 rfl) dX6_rowAt_93 ?_
    refine g_iload_n X 1 dX6_rowAt_96 rfl ?_
    obtain ⟨hk7, hf⟩ := zite hf
    obtain ⟨hi8, hf⟩ := zite hf
    refine g_iald X hk7 hi8 dX6_rowAt_97 ?_
    refine g_iconst X (v := 1) dX6_rowAt_98 (by decide) ?_
    refine g_isub X dX6_rowAt_99 ?_
    refine g_aload_n X 0 dX6_rowAt_100 rfl ?_
    obtain ⟨r_9, hr_9, hf⟩ := zbd hf
    refine g_get X zf6 hk1 3 (by decide) w_f_RX6_18 rfl (zfv_r hr_9 rfl) dX6_rowAt_101 ?_
    obtain ⟨hk10, hf⟩ := zite hf
    refine g_get X zf0 hk10 12 (by decide) w_f_RX6_83 rfl rfl dX6_rowAt_104 ?_
    refine g_imul X dX6_rowAt_107 ?_
    obtain ⟨rfl, rfl⟩ := zsm hf
    exact g_iret X hr dX6_rowAt_108
  refine g_if_ne X 92 dX6_rowAt_15 (by decide) (fun hq => ?_) (fun hq => ?_)
  · have hf := zneg hq hf
    refine g_sub [1, 0] rfl ?_
    exact hJ92 _ _ hf
  · have hf := zpos hq hf
    refine g_iconst X (v := 0) dX6_rowAt_18 (by decide) ?_
    refine g_istore X [(4, .int ((0 : Int32))), (3, .int y2), (0, .ref (base + r0)), (1, .int x1), (2, .int x2)] dX6_rowAt_19 (by decide) rfl ?_
    refine g_sub [2, 3, 4, 1, 0] rfl ?_
    obtain ⟨qq, hlp, hf⟩ := zbd hf
    refine lp_snd (body := (fun q : Int32 × Zh => bX6_rowAt_21 h r0 x1 x2 q.1 q.2)) (P := (fun q : Int32 × Zh => zG p l e { frames := 2, cells := 0, slots := 0, locals := 46 } s m args below meth c (MQ below (zQ D cA base h hE (some (.int rE))) args s 0 0 (zA base)) 5 D cA base h 21 [(0, .ref (base + r0)), (1, .int x1), (2, .int x2), (3, .int y2), (4, .int q.1)] [] q.2)) (E := (fun (en : Nat) (q : Int32 × Zh) => zG p l e { frames := 2, cells := 0, slots := 0, locals := 46 } s m args below meth c (MQ below (zQ D cA base h hE (some (.int rE))) args s 0 0 (zA base)) 5 D cA base h 66 [(0, .ref (base + r0)), (3, .int y2)] [] q.2)) ?_ zB ((0 : Int32), h) qq.1 qq.2 hlp ?_
    · intro q e_21 q_21 hf hc0 hc1
      obtain ⟨x4_21, h_21⟩ := q
      have hf : bX6_rowAt_21 h r0 x1 x2 x4_21 h_21 = some (e_21, q_21) := hf
      unfold bX6_rowAt_21 at hf
      show zG p l e { frames := 2, cells := 0, slots := 0, locals := 46 } s m args below meth c (MQ below (zQ D cA base h hE (some (.int rE))) args s 0 0 (zA base)) 5 D cA base h 21 [(0, .ref (base + r0)), (1, .int x1), (2, .int x2), (3, .int y2), (4, .int x4_21)] [] h_21
      refine g_iload X 4 dX6_rowAt_21 rfl ?_
      refine g_aload_n X 0 dX6_rowAt_23 rfl ?_
      obtain ⟨r_11, hr_11, hf⟩ := zbd hf
      refine g_get X zf6 hk1 3 (by decide) w_f_RX6_18 rfl (zfv_r hr_11 rfl) dX6_rowAt_24 ?_
      obtain ⟨hk12, hf⟩ := zite hf
      refine g_get X zf0 hk12 5 (by decide) w_f_RX6_92 rfl rfl dX6_rowAt_27 ?_
      refine g_icmp_ge X 66 dX6_rowAt_30 (by decide) (fun hq => ?_) (fun hq => ?_)
      · have hf := zpos hq hf
        cases hf
        have hc1 := hc1 (by decide)
        exact g_sub [0, 3] rfl hc1
      · have hf := zneg hq hf
        refine g_aload_n X 0 dX6_rowAt_33 rfl ?_
        obtain ⟨r_13, hr_13, hf⟩ := zbd hf
        refine g_get X zf6 hk1 7 (by decide) w_f_RX6_28 rfl (zfv_r hr_13 rfl) dX6_rowAt_34 ?_
        refine g_iload X 4 dX6_rowAt_37 rfl ?_
        refine g_aload_n X 0 dX6_rowAt_39 rfl ?_
        obtain ⟨r_14, hr_14, hf⟩ := zbd hf
        refine g_get X zf6 hk1 4 (by decide) w_f_RX6_22 rfl (zfv_r hr_14 rfl) dX6_rowAt_40 ?_
        refine g_iload_n X 1 dX6_rowAt_43 rfl ?_
        obtain ⟨hk15, hf⟩ := zite hf
        obtain ⟨hi16, hf⟩ := zite hf
        refine g_iald X hk15 hi16 dX6_rowAt_44 ?_
        refine g_aload_n X 0 dX6_rowAt_45 rfl ?_
        obtain ⟨r_17, hr_17, hf⟩ := zbd hf
        refine g_get X zf6 hk1 5 (by decide) w_f_RX6_25 rfl (zfv_r hr_17 rfl) dX6_rowAt_46 ?_
        refine g_iload_n X 2 dX6_rowAt_49 rfl ?_
        obtain ⟨hk18, hf⟩ := zite hf
        obtain ⟨hi19, hf⟩ := zite hf
        refine g_iald X hk18 hi19 dX6_rowAt_50 ?_
        refine g_iload X 4 dX6_rowAt_51 rfl ?_
        obtain ⟨v21, h20, hch20, hf⟩ := zc2_e hf
        refine g_callS X 2 (sX0_cardAt hch20) ysX0_cardAt w_ml_RX6_127 w_static_X0_cardAt w_ini_RX0 w_code_X0_cardAt (by decide) rfl (st := [.int (zI h_21 r_14 x1.toNatClampNeg), .int x4_21, .ref (base + r_13)]) rfl rfl (Nat.le_of_ble_eq_true rfl) dX6_rowAt_53 ?_
        obtain ⟨v23, h22, hch22, hf⟩ := zc2_e hf
        refine g_callS X 2 (sX0_cardAt hch22) ysX0_cardAt w_ml_RX6_127 w_static_X0_cardAt w_ini_RX0 w_code_X0_cardAt (by decide) rfl (st := [.int x4_21, .ref (base + r_13)]) rfl rfl (Nat.le_of_ble_eq_true rfl) dX6_rowAt_56 ?_
        obtain ⟨hk24, hf⟩ := zite hf
        obtain ⟨hi25, hf⟩ := zite hf
        refine g_iast X hk24 hi25 dX6_rowAt_59 ?_
        refine g_hp (fun h26 eh26 => ?_)
        have hf := zlet_n eh26 hf
        obtain ⟨y27, ey27⟩ : ∃ y : Int32, y = x4_21 + (1 : Int32) := ⟨_, rfl⟩
        have hf := zlet_n ey27 hf
        refine g_iinc X (j := 4) [(4, .int y27), (0, .ref (base + r0)), (1, .int x1), (2, .int x2), (3, .int y2)] dX6_rowAt_60 rfl (by rw [ey27]; rfl) (by decide) rfl ?_
        refine g_goto X 21 dX6_rowAt_63 (by decide) ?_
        cases hf
        exact g_sub [1, 2, 3, 4, 0] rfl (hc0 rfl)
    · obtain ⟨ee, x4_k21, h_k21⟩ := qq
      have hf : kX6_rowAt_21 h r0 y2 ee x4_k21 h_k21 = some (rE, hE) := hf
      unfold kX6_rowAt_21 at hf
      show zG p l e { frames := 2, cells := 0, slots := 0, locals := 46 } s m args below meth c (MQ below (zQ D cA base h hE (some (.int rE))) args s 0 0 (zA base)) 5 D cA base h 66 [(0, .ref (base + r0)), (3, .int y2)] [] h_k21
      refine g_aload_n X 0 dX6_rowAt_66 rfl ?_
      obtain ⟨r_28, hr_28, hf⟩ := zbd hf
      refine g_get X zf6 hk1 8 (by decide) w_f_RX6_31 rfl (zfv_r hr_28 rfl) dX6_rowAt_67 ?_
      refine g_iload_n X 1 dX6_rowAt_70 rfl ?_
      refine g_iconst X (v := 1) dX6_rowAt_71 (by decide) ?_
      refine g_aload_n X 0 dX6_rowAt_72 rfl ?_
      obtain ⟨r_29, hr_29, hf⟩ := zbd hf
      refine g_get X zf6 hk1 3 (by decide) w_f_RX6_18 rfl (zfv_r hr_29 rfl) dX6_rowAt_73 ?_
      refine g_aload_n X 0 dX6_rowAt_76 rfl ?_
      obtain ⟨r_30, hr_30, hf⟩ := zbd hf
      refine g_get X zf6 hk1 7 (by decide) w_f_RX6_28 rfl (zfv_r hr_30 rfl) dX6_rowAt_77 ?_
      refine g_aload_n X 0 dX6_rowAt_80 rfl ?_
      obtain ⟨r_31, hr_31, hf⟩ := zbd hf
      refine g_get X zf6 hk1 3 (by decide) w_f_RX6_18 rfl (zfv_r hr_31 rfl) dX6_rowAt_81 ?_
      obtain ⟨hk32, hf⟩ := zite hf
      refine g_get X zf0 hk32 5 (by decide) w_f_RX6_92 rfl rfl dX6_rowAt_84 ?_
      obtain ⟨hk33, hf⟩ := zite hf
      obtain ⟨v35, h34, hch34, hf⟩ := zc2_e hf
      refine g_callV X 2 (sX0_rowNumber hch34) zf0 hk33 ydX0_rowNumber w_ml_RX6_130 w_instanceMethod_X0_rowNumber w_sel_X0_rowNumber w_ini_RX0 w_code_X0_rowNumber (by decide) rfl (st := [.int ((1 : Int32)), .int y2, .ref (base + r_28)]) rfl rfl (Nat.le_of_ble_eq_true rfl) dX6_rowAt_87 ?_
      refine g_iadd X dX6_rowAt_90 ?_
      obtain ⟨hk36, hf⟩ := zite hf
      obtain ⟨hi37, hf⟩ := zite hf
      refine g_iast X hk36 hi37 dX6_rowAt_91 ?_
      refine g_hp (fun h38 eh38 => ?_)
      have hf := zlet_n eh38 hf
      refine g_sub [0, 1] rfl ?_
      exact hJ92 _ _ hf

set_option maxHeartbeats 4000000 in
set_option maxRecDepth 100000 in
theorem sX6_sortRows {l : Launch} {D : va_G} {cA : Nat → ClassId} {base : Nat} {sA : Nat → Nat} {r0 : Nat} {x1 : Int32} {h hE : Zh} (hf : fX6_sortRows r0 x1 h = some hE) : zC l yX6_sortRows cX6_sortRows 6 none 3 70 D cA base sA [.ref (base + r0), .int x1] h none hE := by
  refine g_entry RX6 (by decide) rfl (Nat.le_of_ble_eq_true rfl) ?_
  intro p e s m args below meth c X hr
  unfold fX6_sortRows at hf
  have hf := zlet_n (x := h) rfl hf
  show zG p l e { frames := 3, cells := 0, slots := 0, locals := 70 } s m args below meth c (MQ below (zQ D cA base h hE none) args s 0 0 (zA base)) 6 D cA base h 0 [(0, .ref (base + r0)), (1, .int x1)] [] h
  refine g_iload_n X 1 dX6_sortRows_0 rfl ?_
  refine g_aload_n X 0 dX6_sortRows_1 rfl ?_
  obtain ⟨hk1, hf⟩ := zite hf
  refine g_get X zf6 hk1 6 (by decide) w_f_RX6_86 rfl rfl dX6_sortRows_2 ?_
  refine g_imul X dX6_sortRows_5 ?_
  refine g_topi (fun y2 ey2 => ?_)
  have hf := zlet_n ey2 hf
  refine g_istore_n X [(2, .int y2), (0, .ref (base + r0)), (1, .int x1)] dX6_sortRows_6 (by decide) rfl ?_
  refine g_iconst X (v := 0) dX6_sortRows_7 (by decide) ?_
  refine g_istore_n X [(3, .int ((0 : Int32))), (2, .int y2), (0, .ref (base + r0)), (1, .int x1)] dX6_sortRows_8 (by decide) rfl ?_
  refine g_sub [2, 3, 1, 0] rfl ?_
  obtain ⟨qq, hlp, hf⟩ := zbd hf
  refine lp_snd (body := (fun q : Int32 × Zh => bX6_sortRows_9 h r0 x1 y2 q.1 q.2)) (P := (fun q : Int32 × Zh => zG p l e { frames := 3, cells := 0, slots := 0, locals := 70 } s m args below meth c (MQ below (zQ D cA base h hE none) args s 0 0 (zA base)) 6 D cA base h 9 [(0, .ref (base + r0)), (1, .int x1), (2, .int y2), (3, .int q.1)] [] q.2)) (E := (fun (en : Nat) (q : Int32 × Zh) => zG p l e { frames := 3, cells := 0, slots := 0, locals := 70 } s m args below meth c (MQ below (zQ D cA base h hE none) args s 0 0 (zA base)) 6 D cA base h 96 [] [] q.2)) ?_ zB ((0 : Int32), h) qq.1 qq.2 hlp ?_
  · intro q e_9 q_9 hf hc0 hc1
    obtain ⟨x3_9, h_9⟩ := q
    have hf : bX6_sortRows_9 h r0 x1 y2 x3_9 h_9 = some (e_9, q_9) := hf
    unfold bX6_sortRows_9 at hf
    show zG p l e { frames := 3, cells := 0, slots := 0, locals := 70 } s m args below meth c (MQ below (zQ D cA base h hE none) args s 0 0 (zA base)) 6 D cA base h 9 [(0, .ref (base + r0)), (1, .int x1), (2, .int y2), (3, .int x3_9)] [] h_9
    refine g_iload_n X 3 dX6_sortRows_9 rfl ?_
    refine g_aload_n X 0 dX6_sortRows_10 rfl ?_
    refine g_get X zf6 hk1 6 (by decide) w_f_RX6_86 rfl rfl dX6_sortRows_11 ?_
    refine g_icmp_ge X 96 dX6_sortRows_14 (by decide) (fun hq => ?_) (fun hq => ?_)
    · have hf := zpos hq hf
      cases hf
      have hc1 := hc1 (by decide)
      exact g_sub [] rfl hc1
    · have hf := zneg hq hf
      refine g_aload_n X 0 dX6_sortRows_17 rfl ?_
      refine g_iload_n X 1 dX6_sortRows_18 rfl ?_
      refine g_iload_n X 3 dX6_sortRows_19 rfl ?_
      obtain ⟨v4, h3, hch3, hf⟩ := zc2_e hf
      refine g_callV X 2 (sX6_rowAt hch3) zf6 hk1 ydX6_rowAt w_ml_RX6_123 w_instanceMethod_X6_rowAt w_sel_X6_rowAt w_ini_RX6 w_code_X6_rowAt (by decide) rfl (st := []) rfl rfl (Nat.le_of_ble_eq_true rfl) dX6_sortRows_20 ?_
      refine g_pop X dX6_sortRows_23 rfl ?_
      refine g_aload_n X 0 dX6_sortRows_24 rfl ?_
      obtain ⟨r_5, hr_5, hf⟩ := zbd hf
      refine g_get X zf6 hk1 8 (by decide) w_f_RX6_31 rfl (zfv_r hr_5 rfl) dX6_sortRows_25 ?_
      refine g_iload_n X 2 dX6_sortRows_28 rfl ?_
      refine g_iload_n X 3 dX6_sortRows_29 rfl ?_
      refine g_iadd X dX6_sortRows_30 ?_
      obtain ⟨hk6, hf⟩ := zite hf
      obtain ⟨hi7, hf⟩ := zite hf
      refine g_iald X hk6 hi7 dX6_sortRows_31 ?_
      refine g_topi (fun y8 ey8 => ?_)
      have hf := zlet_n ey8 hf
      refine g_istore X [(4, .int y8), (0, .ref (base + r0)), (1, .int x1), (2, .int y2), (3, .int x3_9)] dX6_sortRows_32 (by decide) rfl ?_
      refine g_iload_n X 3 dX6_sortRows_34 rfl ?_
      refine g_iload_n X 4 dX6_sortRows_35 rfl ?_
      refine g_iadd X dX6_sortRows_36 ?_
      refine g_topi (fun y9 ey9 => ?_)
      have hf := zlet_n ey9 hf
      refine g_istore X [(5, .int y9), (4, .int y8), (0, .ref (base + r0)), (1, .int x1), (2, .int y2), (3, .int x3_9)] dX6_sortRows_37 (by decide) rfl ?_
      refine g_sub [2, 3, 4, 5, 1, 0] rfl ?_
      obtain ⟨qq, hlp, hf⟩ := zbd hf
      refine lp_snd (body := (fun q : Int32 × Zh => bX6_sortRows_39 h r0 y2 y8 q.1 q.2)) (P := (fun q : Int32 × Zh => zG p l e { frames := 3, cells := 0, slots := 0, locals := 70 } s m args below meth c (MQ below (zQ D cA base h hE none) args s 0 0 (zA base)) 6 D cA base h 39 [(0, .ref (base + r0)), (1, .int x1), (2, .int y2), (3, .int x3_9), (4, .int y8), (5, .int q.1)] [] q.2)) (E := (fun (en : Nat) (q : Int32 × Zh) => zG p l e { frames := 3, cells := 0, slots := 0, locals := 70 } s m args below meth c (MQ below (zQ D cA base h hE none) args s 0 0 (zA base)) 6 D cA base h 81 [(0, .ref (base + r0)), (1, .int x1), (2, .int y2), (3, .int x3_9), (4, .int y8), (5, .int q.1)] [] q.2)) ?_ zB (y9, h3) qq.1 qq.2 hlp ?_
      · intro q e_39 q_39 hf hc0 hc1
        obtain ⟨x5_39, h_39⟩ := q
        have hf : bX6_sortRows_39 h r0 y2 y8 x5_39 h_39 = some (e_39, q_39) := hf
        unfold bX6_sortRows_39 at hf
        show zG p l e { frames := 3, cells := 0, slots := 0, locals := 70 } s m args below meth c (MQ below (zQ D cA base h hE none) args s 0 0 (zA base)) 6 D cA base h 39 [(0, .ref (base + r0)), (1, .int x1), (2, .int y2), (3, .int x3_9), (4, .int y8), (5, .int x5_39)] [] h_39
        refine g_iload X 5 dX6_sortRows_39 rfl ?_
        refine g_iload_n X 2 dX6_sortRows_41 rfl ?_
        refine g_icmp_le X 81 dX6_sortRows_42 (by decide) (fun hq => ?_) (fun hq => ?_)
        · have hf := zpos hq hf
          cases hf
          have hc1 := hc1 (by decide)
          exact g_sub [0, 1, 2, 3, 4, 5] rfl hc1
        · have hf := zneg hq hf
          refine g_aload_n X 0 dX6_sortRows_45 rfl ?_
          obtain ⟨r_10, hr_10, hf⟩ := zbd hf
          refine g_get X zf6 hk1 8 (by decide) w_f_RX6_31 rfl (zfv_r hr_10 rfl) dX6_sortRows_46 ?_
          refine g_iload X 5 dX6_sortRows_49 rfl ?_
          refine g_iconst X (v := 1) dX6_sortRows_51 (by decide) ?_
          refine g_isub X dX6_sortRows_52 ?_
          obtain ⟨hk11, hf⟩ := zite hf
          obtain ⟨hi12, hf⟩ := zite hf
          refine g_iald X hk11 hi12 dX6_sortRows_53 ?_
          refine g_iload X 4 dX6_sortRows_54 rfl ?_
          refine g_icmp_le X 81 dX6_sortRows_56 (by decide) (fun hq => ?_) (fun hq => ?_)
          · have hf := zpos hq hf
            cases hf
            have hc1 := hc1 (by decide)
            exact g_sub [0, 1, 2, 3, 4, 5] rfl hc1
          · have hf := zneg hq hf
            refine g_aload_n X 0 dX6_sortRows_59 rfl ?_
            obtain ⟨r_13, hr_13, hf⟩ := zbd hf
            refine g_get X zf6 hk1 8 (by decide) w_f_RX6_31 rfl (zfv_r hr_13 rfl) dX6_sortRows_60 ?_
            refine g_iload X 5 dX6_sortRows_63 rfl ?_
            refine g_aload_n X 0 dX6_sortRows_65 rfl ?_
            obtain ⟨r_14, hr_14, hf⟩ := zbd hf
            refine g_get X zf6 hk1 8 (by decide) w_f_RX6_31 rfl (zfv_r hr_14 rfl) dX6_sortRows_66 ?_
            refine g_iload X 5 dX6_sortRows_69 rfl ?_
            refine g_iconst X (v := 1) dX6_sortRows_71 (by decide) ?_
            refine g_isub X dX6_sortRows_72 ?_
            obtain ⟨hk15, hf⟩ := zite hf
            obtain ⟨hi16, hf⟩ := zite hf
            refine g_iald X hk15 hi16 dX6_sortRows_73 ?_
            obtain ⟨hk17, hf⟩ := zite hf
            obtain ⟨hi18, hf⟩ := zite hf
            refine g_iast X hk17 hi18 dX6_sortRows_74 ?_
            refine g_hp (fun h19 eh19 => ?_)
            have hf := zlet_n eh19 hf
            obtain ⟨y20, ey20⟩ : ∃ y : Int32, y = x5_39 + (-1 : Int32) := ⟨_, rfl⟩
            have hf := zlet_n ey20 hf
            refine g_iinc X (j := 5) [(5, .int y20), (0, .ref (base + r0)), (1, .int x1), (2, .int y2), (3, .int x3_9), (4, .int y8)] dX6_sortRows_75 rfl (by rw [ey20]; rfl) (by decide) rfl ?_
            refine g_goto X 39 dX6_sortRows_78 (by decide) ?_
            cases hf
            exact g_sub [1, 2, 3, 4, 5, 0] rfl (hc0 rfl)
      · obtain ⟨ee, x5_k39, h_k39⟩ := qq
        have hf : kX6_sortRows_39 h r0 x1 y2 x3_9 y8 ee x5_k39 h_k39 = some (e_9, q_9) := hf
        unfold kX6_sortRows_39 at hf
        show zG p l e { frames := 3, cells := 0, slots := 0, locals := 70 } s m args below meth c (MQ below (zQ D cA base h hE none) args s 0 0 (zA base)) 6 D cA base h 81 [(0, .ref (base + r0)), (1, .int x1), (2, .int y2), (3, .int x3_9), (4, .int y8), (5, .int x5_k39)] [] h_k39
        refine g_aload_n X 0 dX6_sortRows_81 rfl ?_
        obtain ⟨r_21, hr_21, hf⟩ := zbd hf
        refine g_get X zf6 hk1 8 (by decide) w_f_RX6_31 rfl (zfv_r hr_21 rfl) dX6_sortRows_82 ?_
        refine g_iload X 5 dX6_sortRows_85 rfl ?_
        refine g_iload X 4 dX6_sortRows_87 rfl ?_
        obtain ⟨hk22, hf⟩ := zite hf
        obtain ⟨hi23, hf⟩ := zite hf
        refine g_iast X hk22 hi23 dX6_sortRows_89 ?_
        refine g_hp (fun h24 eh24 => ?_)
        have hf := zlet_n eh24 hf
        obtain ⟨y25, ey25⟩ : ∃ y : Int32, y = x3_9 + (1 : Int32) := ⟨_, rfl⟩
        have hf := zlet_n ey25 hf
        refine g_iinc X (j := 3) [(3, .int y25), (0, .ref (base + r0)), (1, .int x1), (2, .int y2), (4, .int y8), (5, .int x5_k39)] dX6_sortRows_90 rfl (by rw [ey25]; rfl) (by decide) rfl ?_
        refine g_goto X 9 dX6_sortRows_93 (by decide) ?_
        cases hf
        exact g_sub [1, 2, 3, 0] rfl (hc0 rfl)
  · obtain ⟨ee, x3_k9, h_k9⟩ := qq
    have hf : kX6_sortRows_9 h ee x3_k9 h_k9 = some hE := hf
    unfold kX6_sortRows_9 at hf
    show zG p l e { frames := 3, cells := 0, slots := 0, locals := 70 } s m args below meth c (MQ below (zQ D cA base h hE none) args s 0 0 (zA base)) 6 D cA base h 96 [] [] h_k9
    cases hf
    exact g_vret X hr dX6_sortRows_96

set_option maxHeartbeats 4000000 in
set_option maxRecDepth 100000 in
theorem sX6_hurry {l : Launch} {D : va_G} {cA : Nat → ClassId} {base : Nat} {sA : Nat → Nat} {r0 : Nat} {x1 : Int32} {x2 : Int32} {h hE : Zh} (hf : fX6_hurry r0 x1 x2 h = some hE) : zC l yX6_hurry cX6_hurry 7 none 0 0 D cA base sA [.ref (base + r0), .int x1, .int x2] h none hE := by
  refine g_entry RX6 (by decide) rfl (Nat.le_of_ble_eq_true rfl) ?_
  intro p e s m args below meth c X hr
  unfold fX6_hurry at hf
  have hf := zlet_n (x := h) rfl hf
  show zG p l e { frames := 0, cells := 0, slots := 0, locals := 0 } s m args below meth c (MQ below (zQ D cA base h hE none) args s 0 0 (zA base)) 7 D cA base h 0 [(0, .ref (base + r0)), (1, .int x1), (2, .int x2)] [] h
  refine g_iload_n X 1 dX6_hurry_0 rfl ?_
  refine g_istore_n X [(3, .int x1), (0, .ref (base + r0)), (1, .int x1), (2, .int x2)] dX6_hurry_1 (by decide) rfl ?_
  refine g_iload_n X 3 dX6_hurry_2 rfl ?_
  refine g_istore X [(4, .int x2), (3, .int x1), (0, .ref (base + r0)), (1, .int x1), (2, .int x2)] dX6_hurry_3 (by decide) rfl ?_
  refine g_iconst X (v := 0) dX6_hurry_5 (by decide) ?_
  refine g_istore X [(5, .int ((0 : Int32))), (4, .int x2), (3, .int x1), (0, .ref (base + r0)), (1, .int x1), (2, .int x2)] dX6_hurry_6 (by decide) rfl ?_
  refine g_sub [3, 2, 1, 0] rfl ?_
  obtain ⟨qq, hlp, hf⟩ := zbd hf
  refine lp_snd (body := (fun q : Int32 × Int32 × Int32 × Zh => bX6_hurry_8 h r0 q.1 q.2.1 q.2.2.1 q.2.2.2)) (P := (fun q : Int32 × Int32 × Int32 × Zh => zG p l e { frames := 0, cells := 0, slots := 0, locals := 0 } s m args below meth c (MQ below (zQ D cA base h hE none) args s 0 0 (zA base)) 7 D cA base h 8 [(0, .ref (base + r0)), (3, .int q.1), (4, .int q.2.1), (5, .int q.2.2.1)] [] q.2.2.2)) (E := (fun (en : Nat) (q : Int32 × Int32 × Int32 × Zh) => zG p l e { frames := 0, cells := 0, slots := 0, locals := 0 } s m args below meth c (MQ below (zQ D cA base h hE none) args s 0 0 (zA base)) 7 D cA base h 63 [] [] q.2.2.2)) ?_ zB (x1, (x2, ((0 : Int32), h))) qq.1 qq.2 hlp ?_
  · intro q e_8 q_8 hf hc0 hc1
    obtain ⟨x3_8, x4_8, x5_8, h_8⟩ := q
    have hf : bX6_hurry_8 h r0 x3_8 x4_8 x5_8 h_8 = some (e_8, q_8) := hf
    unfold bX6_hurry_8 at hf
    show zG p l e { frames := 0, cells := 0, slots := 0, locals := 0 } s m args below meth c (MQ below (zQ D cA base h hE none) args s 0 0 (zA base)) 7 D cA base h 8 [(0, .ref (base + r0)), (3, .int x3_8), (4, .int x4_8), (5, .int x5_8)] [] h_8
    refine g_iload X 3 dX6_hurry_8 rfl ?_
    refine g_sipush X (v := 300) dX6_hurry_10 (by decide) ?_
    refine g_icmp_ge X 63 dX6_hurry_13 (by decide) (fun hq => ?_) (fun hq => ?_)
    · have hf := zpos hq hf
      cases hf
      have hc1 := hc1 (by decide)
      exact g_sub [] rfl hc1
    · have hf := zneg hq hf
      refine g_iload_n X 1 dX6_hurry_16 rfl ?_
      refine g_if_lt X 63 dX6_hurry_17 (by decide) (fun hq => ?_) (fun hq => ?_)
      · have hf := zpos hq hf
        cases hf
        have hc1 := hc1 (by decide)
        exact g_sub [] rfl hc1
      · have hf := zneg hq hf
        refine g_aload_n X 0 dX6_hurry_20 rfl ?_
        obtain ⟨hk1, hf⟩ := zite hf
        obtain ⟨r_2, hr_2, hf⟩ := zbd hf
        refine g_get X zf6 hk1 0 (by decide) w_f_RX6_9 rfl (zfv_r hr_2 rfl) dX6_hurry_21 ?_
        refine g_iload_n X 1 dX6_hurry_24 rfl ?_
        obtain ⟨hk3, hf⟩ := zite hf
        obtain ⟨hi4, hf⟩ := zite hf
        refine g_iald X hk3 hi4 dX6_hurry_25 ?_
        refine g_topi (fun y5 ey5 => ?_)
        have hf := zlet_n ey5 hf
        refine g_istore X [(6, .int y5), (0, .ref (base + r0)), (3, .int x3_8), (4, .int x4_8), (5, .int x5_8)] dX6_hurry_26 (by decide) rfl ?_
        refine g_aload_n X 1 dX6_hurry_28 rfl ?_
        obtain ⟨r_6, hr_6, hf⟩ := zbd hf
        refine g_get X zf6 hk1 0 (by decide) w_f_RX6_9 rfl (zfv_r hr_6 rfl) dX6_hurry_29 ?_
        refine g_iload_n X 2 dX6_hurry_32 rfl ?_
        refine g_iload X 3 dX6_hurry_33 rfl ?_
        obtain ⟨hk7, hf⟩ := zite hf
        obtain ⟨hi8, hf⟩ := zite hf
        refine g_iast X hk7 hi8 dX6_hurry_35 ?_
        refine g_hp (fun h9 eh9 => ?_)
        have hf := zlet_n eh9 hf
        refine g_aload_n X 1 dX6_hurry_36 rfl ?_
        obtain ⟨r_10, hr_10, hf⟩ := zbd hf
        refine g_get X zf6 hk1 9 (by decide) w_f_RX6_34 rfl (zfv_r hr_10 rfl) dX6_hurry_37 ?_
        refine g_iload X 3 dX6_hurry_40 rfl ?_
        refine g_iload_n X 2 dX6_hurry_42 rfl ?_
        refine g_iconst X (v := 1) dX6_hurry_43 (by decide) ?_
        refine g_iadd X dX6_hurry_44 ?_
        obtain ⟨hk11, hf⟩ := zite hf
        obtain ⟨hi12, hf⟩ := zite hf
        refine g_iast X hk11 hi12 dX6_hurry_45 ?_
        refine g_hp (fun h13 eh13 => ?_)
        have hf := zlet_n eh13 hf
        refine g_iload X 0 dX6_hurry_46 rfl ?_
        refine g_istore X [(4, .int y5), (6, .int y5), (0, .ref (base + r0)), (3, .int x3_8), (5, .int x5_8)] dX6_hurry_48 (by decide) rfl ?_
        refine g_aload_n X 2 dX6_hurry_50 rfl ?_
        obtain ⟨r_14, hr_14, hf⟩ := zbd hf
        refine g_get X zf6 hk1 12 (by decide) w_f_RX6_40 rfl (zfv_r hr_14 rfl) dX6_hurry_51 ?_
        refine g_iload_n X 3 dX6_hurry_54 rfl ?_
        obtain ⟨hk15, hf⟩ := zite hf
        obtain ⟨hi16, hf⟩ := zite hf
        refine g_iald X hk15 hi16 dX6_hurry_55 ?_
        refine g_topi (fun y17 ey17 => ?_)
        have hf := zlet_n ey17 hf
        refine g_istore_n X [(3, .int y17), (4, .int y5), (6, .int y5), (0, .ref (base + r0)), (5, .int x5_8)] dX6_hurry_56 (by decide) rfl ?_
        obtain ⟨y18, ey18⟩ : ∃ y : Int32, y = x5_8 + (1 : Int32) := ⟨_, rfl⟩
        have hf := zlet_n ey18 hf
        refine g_iinc X (j := 4) [(5, .int y18), (3, .int y17), (4, .int y5), (6, .int y5), (0, .ref (base + r0))] dX6_hurry_57 rfl (by rw [ey18]; rfl) (by decide) rfl ?_
        refine g_goto X 8 dX6_hurry_60 (by decide) ?_
        cases hf
        exact g_sub [4, 1, 2, 0] rfl (hc0 rfl)
  · obtain ⟨ee, x3_k8, x4_k8, x5_k8, h_k8⟩ := qq
    have hf : kX6_hurry_8 h ee x3_k8 x4_k8 x5_k8 h_k8 = some hE := hf
    unfold kX6_hurry_8 at hf
    show zG p l e { frames := 0, cells := 0, slots := 0, locals := 0 } s m args below meth c (MQ below (zQ D cA base h hE none) args s 0 0 (zA base)) 7 D cA base h 63 [] [] h_k8
    cases hf
    exact g_vret X hr dX6_hurry_63

set_option maxHeartbeats 4000000 in
set_option maxRecDepth 100000 in
theorem sX6_rehome {l : Launch} {D : va_G} {cA : Nat → ClassId} {base : Nat} {sA : Nat → Nat} {r0 : Nat} {x1 : Int32} {h hE : Zh} {rE : Int32} (hf : fX6_rehome r0 x1 h = some (rE, hE)) : zC l yX6_rehome cX6_rehome 9 (some .boolean) 3 70 D cA base sA [.ref (base + r0), .int x1] h (some (.int rE)) hE := by
  refine g_entry RX6 (by decide) rfl (Nat.le_of_ble_eq_true rfl) ?_
  intro p e s m args below meth c X hr
  unfold fX6_rehome at hf
  have hf := zlet_n (x := h) rfl hf
  show zG p l e { frames := 3, cells := 0, slots := 0, locals := 70 } s m args below meth c (MQ below (zQ D cA base h hE (some (.int rE))) args s 0 0 (zA base)) 9 D cA base h 0 [(0, .ref (base + r0)), (1, .int x1)] [] h
  refine g_aload_n X 0 dX6_rehome_0 rfl ?_
  obtain ⟨hk1, hf⟩ := zite hf
  obtain ⟨r_2, hr_2, hf⟩ := zbd hf
  refine g_get X zf6 hk1 11 (by decide) w_f_RX6_37 rfl (zfv_r hr_2 rfl) dX6_rehome_1 ?_
  refine g_iconst X (v := 0) dX6_rehome_4 (by decide) ?_
  refine g_iload_n X 1 dX6_rehome_5 rfl ?_
  obtain ⟨hk3, hf⟩ := zite hf
  obtain ⟨hi4, hf⟩ := zite hf
  refine g_iast X hk3 hi4 dX6_rehome_6 ?_
  refine g_hp (fun h5 eh5 => ?_)
  have hf := zlet_n eh5 hf
  refine g_aload_n X 0 dX6_rehome_7 rfl ?_
  obtain ⟨r_6, hr_6, hf⟩ := zbd hf
  refine g_get X zf6 hk1 13 (by decide) w_f_RX6_43 rfl (zfv_r hr_6 rfl) dX6_rehome_8 ?_
  refine g_iload_n X 1 dX6_rehome_11 rfl ?_
  refine g_aload_n X 0 dX6_rehome_12 rfl ?_
  refine g_get X zf6 hk1 14 (by decide) w_f_RX6_68 rfl rfl dX6_rehome_13 ?_
  obtain ⟨hk7, hf⟩ := zite hf
  obtain ⟨hi8, hf⟩ := zite hf
  refine g_iast X hk7 hi8 dX6_rehome_16 ?_
  refine g_hp (fun h9 eh9 => ?_)
  have hf := zlet_n eh9 hf
  refine g_aload_n X 0 dX6_rehome_17 rfl ?_
  obtain ⟨r_10, hr_10, hf⟩ := zbd hf
  refine g_get X zf6 hk1 12 (by decide) w_f_RX6_40 rfl (zfv_r hr_10 rfl) dX6_rehome_18 ?_
  refine g_iload_n X 1 dX6_rehome_21 rfl ?_
  refine g_iconst X (v := -1) dX6_rehome_22 (by decide) ?_
  obtain ⟨hk11, hf⟩ := zite hf
  obtain ⟨hi12, hf⟩ := zite hf
  refine g_iast X hk11 hi12 dX6_rehome_23 ?_
  refine g_hp (fun h13 eh13 => ?_)
  have hf := zlet_n eh13 hf
  refine g_iconst X (v := 1) dX6_rehome_24 (by decide) ?_
  refine g_istore_n X [(2, .int ((1 : Int32))), (0, .ref (base + r0)), (1, .int x1)] dX6_rehome_25 (by decide) rfl ?_
  refine g_iconst X (v := 0) dX6_rehome_26 (by decide) ?_
  refine g_istore_n X [(3, .int ((0 : Int32))), (2, .int ((1 : Int32))), (0, .ref (base + r0)), (1, .int x1)] dX6_rehome_27 (by decide) rfl ?_
  refine g_sub [2, 1, 0] rfl ?_
  obtain ⟨qq, hlp, hf⟩ := zbd hf
  refine lp_snd (body := (fun q : Int32 × Int32 × Int32 × Int32 × Zh => bX6_rehome_28 h r0 q.1 q.2.1 q.2.2.1 q.2.2.2.1 q.2.2.2.2)) (P := (fun q : Int32 × Int32 × Int32 × Int32 × Zh => zG p l e { frames := 3, cells := 0, slots := 0, locals := 70 } s m args below meth c (MQ below (zQ D cA base h hE (some (.int rE))) args s 0 0 (zA base)) 9 D cA base h 28 [(0, .ref (base + r0)), (2, .int q.1), (3, .int q.2.1)] [] q.2.2.2.2)) (E := (fun (en : Nat) (q : Int32 × Int32 × Int32 × Int32 × Zh) => if en = 1 then zG p l e { frames := 3, cells := 0, slots := 0, locals := 70 } s m args below meth c (MQ below (zQ D cA base h hE (some (.int rE))) args s 0 0 (zA base)) 9 D cA base h 105 [(0, .ref (base + r0)), (4, .int q.2.2.1), (7, .int q.2.2.2.1)] [] q.2.2.2.2 else zG p l e { frames := 3, cells := 0, slots := 0, locals := 70 } s m args below meth c (MQ below (zQ D cA base h hE (some (.int rE))) args s 0 0 (zA base)) 9 D cA base h 194 [] [] q.2.2.2.2)) ?_ zB ((1 : Int32), ((0 : Int32), (0, (0, h13)))) qq.1 qq.2 hlp ?_
  · intro q e_28 q_28 hf hc0 hc1
    obtain ⟨x2_28, x3_28, x4_28, x7_28, h_28⟩ := q
    have hf : bX6_rehome_28 h r0 x2_28 x3_28 x4_28 x7_28 h_28 = some (e_28, q_28) := hf
    unfold bX6_rehome_28 at hf
    show zG p l e { frames := 3, cells := 0, slots := 0, locals := 70 } s m args below meth c (MQ below (zQ D cA base h hE (some (.int rE))) args s 0 0 (zA base)) 9 D cA base h 28 [(0, .ref (base + r0)), (2, .int x2_28), (3, .int x3_28)] [] h_28
    refine g_iload_n X 2 dX6_rehome_28 rfl ?_
    refine g_iload_n X 1 dX6_rehome_29 rfl ?_
    refine g_icmp_ge X 194 dX6_rehome_30 (by decide) (fun hq => ?_) (fun hq => ?_)
    · have hf := zpos hq hf
      cases hf
      have hc1 := hc1 (by decide)
      exact g_sub [] rfl (zun_n (by decide) hc1)
    · have hf := zneg hq hf
      refine g_iload_n X 2 dX6_rehome_33 rfl ?_
      refine g_sipush X (v := 300) dX6_rehome_34 (by decide) ?_
      refine g_icmp_ge X 194 dX6_rehome_37 (by decide) (fun hq => ?_) (fun hq => ?_)
      · have hf := zpos hq hf
        cases hf
        have hc1 := hc1 (by decide)
        exact g_sub [] rfl (zun_n (by decide) hc1)
      · have hf := zneg hq hf
        refine g_aload_n X 0 dX6_rehome_40 rfl ?_
        obtain ⟨r_14, hr_14, hf⟩ := zbd hf
        refine g_get X zf6 hk1 11 (by decide) w_f_RX6_37 rfl (zfv_r hr_14 rfl) dX6_rehome_41 ?_
        refine g_iload_n X 2 dX6_rehome_44 rfl ?_
        obtain ⟨hk15, hf⟩ := zite hf
        obtain ⟨hi16, hf⟩ := zite hf
        refine g_iald X hk15 hi16 dX6_rehome_45 ?_
        refine g_topi (fun y17 ey17 => ?_)
        have hf := zlet_n ey17 hf
        refine g_istore X [(4, .int y17), (0, .ref (base + r0)), (2, .int x2_28), (3, .int x3_28)] dX6_rehome_46 (by decide) rfl ?_
        refine g_iconst X (v := 0) dX6_rehome_48 (by decide) ?_
        refine g_istore X [(5, .int ((0 : Int32))), (4, .int y17), (0, .ref (base + r0)), (2, .int x2_28), (3, .int x3_28)] dX6_rehome_49 (by decide) rfl ?_
        refine g_sub [2, 3, 4, 1, 0] rfl ?_
        obtain ⟨qq, hlp, hf⟩ := zbd hf
        refine lp_snd (body := (fun q : Int32 × Int32 × Int32 × Zh => bX6_rehome_51 h r0 y17 q.1 q.2.1 q.2.2.1 q.2.2.2)) (P := (fun q : Int32 × Int32 × Int32 × Zh => zG p l e { frames := 3, cells := 0, slots := 0, locals := 70 } s m args below meth c (MQ below (zQ D cA base h hE (some (.int rE))) args s 0 0 (zA base)) 9 D cA base h 51 [(0, .ref (base + r0)), (2, .int q.1), (3, .int x3_28), (4, .int y17), (5, .int q.2.1)] [] q.2.2.2)) (E := (fun (en : Nat) (q : Int32 × Int32 × Int32 × Zh) => if en = 1 then zG p l e { frames := 3, cells := 0, slots := 0, locals := 70 } s m args below meth c (MQ below (zQ D cA base h hE (some (.int rE))) args s 0 0 (zA base)) 9 D cA base h 105 [(0, .ref (base + r0)), (4, .int y17), (7, .int q.2.2.1)] [] q.2.2.2 else zG p l e { frames := 3, cells := 0, slots := 0, locals := 70 } s m args below meth c (MQ below (zQ D cA base h hE (some (.int rE))) args s 0 0 (zA base)) 9 D cA base h 188 [(0, .ref (base + r0)), (2, .int q.1), (3, .int x3_28)] [] q.2.2.2)) ?_ zB (x2_28, ((0 : Int32), (0, h_28))) qq.1 qq.2 hlp ?_
        · intro q e_51 q_51 hf hc0 hc1
          obtain ⟨x2_51, x5_51, x7_51, h_51⟩ := q
          have hf : bX6_rehome_51 h r0 y17 x2_51 x5_51 x7_51 h_51 = some (e_51, q_51) := hf
          unfold bX6_rehome_51 at hf
          show zG p l e { frames := 3, cells := 0, slots := 0, locals := 70 } s m args below meth c (MQ below (zQ D cA base h hE (some (.int rE))) args s 0 0 (zA base)) 9 D cA base h 51 [(0, .ref (base + r0)), (2, .int x2_51), (3, .int x3_28), (4, .int y17), (5, .int x5_51)] [] h_51
          refine g_iload X 4 dX6_rehome_51 rfl ?_
          refine g_aload_n X 0 dX6_rehome_53 rfl ?_
          refine g_get X zf6 hk1 6 (by decide) w_f_RX6_86 rfl rfl dX6_rehome_54 ?_
          refine g_icmp_ge X 188 dX6_rehome_57 (by decide) (fun hq => ?_) (fun hq => ?_)
          · have hf := zpos hq hf
            cases hf
            have hc1 := hc1 (by decide)
            exact g_sub [0, 1, 2] rfl (zun_n (by decide) hc1)
          · have hf := zneg hq hf
            refine g_aload_n X 0 dX6_rehome_60 rfl ?_
            refine g_iload X 3 dX6_rehome_61 rfl ?_
            refine g_iload X 4 dX6_rehome_63 rfl ?_
            obtain ⟨v19, h18, hch18, hf⟩ := zc2_e hf
            refine g_callV X 2 (sX6_rowAt hch18) zf6 hk1 ydX6_rowAt w_ml_RX6_123 w_instanceMethod_X6_rowAt w_sel_X6_rowAt w_ini_RX6 w_code_X6_rowAt (by decide) rfl (st := []) rfl rfl (Nat.le_of_ble_eq_true rfl) dX6_rehome_65 ?_
            refine g_istore X [(6, .int v19), (0, .ref (base + r0)), (2, .int x2_51), (3, .int x3_28), (4, .int y17), (5, .int x5_51)] dX6_rehome_68 (by decide) rfl ?_
            refine g_iload X 0 dX6_rehome_70 rfl ?_
            refine g_istore X [(7, .int v19), (6, .int v19), (0, .ref (base + r0)), (2, .int x2_51), (3, .int x3_28), (4, .int y17), (5, .int x5_51)] dX6_rehome_72 (by decide) rfl ?_
            refine g_sub [2, 3, 4, 5, 6, 1, 0] rfl ?_
            obtain ⟨qq, hlp, hf⟩ := zbd hf
            refine lp_snd (body := (fun q : Int32 × Int32 × Zh => bX6_rehome_74 h r0 y17 v19 q.1 q.2.1 q.2.2)) (P := (fun q : Int32 × Int32 × Zh => zG p l e { frames := 3, cells := 0, slots := 0, locals := 70 } s m args below meth c (MQ below (zQ D cA base h hE (some (.int rE))) args s 0 0 (zA base)) 9 D cA base h 74 [(0, .ref (base + r0)), (2, .int q.1), (3, .int x3_28), (4, .int y17), (5, .int x5_51), (6, .int v19), (7, .int q.2.1)] [] q.2.2)) (E := (fun (en : Nat) (q : Int32 × Int32 × Zh) => if en = 1 then zG p l e { frames := 3, cells := 0, slots := 0, locals := 70 } s m args below meth c (MQ below (zQ D cA base h hE (some (.int rE))) args s 0 0 (zA base)) 9 D cA base h 105 [(0, .ref (base + r0)), (4, .int y17), (7, .int q.2.1)] [] q.2.2 else zG p l e { frames := 3, cells := 0, slots := 0, locals := 70 } s m args below meth c (MQ below (zQ D cA base h hE (some (.int rE))) args s 0 0 (zA base)) 9 D cA base h 182 [(0, .ref (base + r0)), (2, .int q.1), (3, .int x3_28), (4, .int y17), (5, .int x5_51)] [] q.2.2)) ?_ zB (x2_51, (v19, h18)) qq.1 qq.2 hlp ?_
            · intro q e_74 q_74 hf hc0 hc1
              obtain ⟨x2_74, x7_74, h_74⟩ := q
              have hf : bX6_rehome_74 h r0 y17 v19 x2_74 x7_74 h_74 = some (e_74, q_74) := hf
              unfold bX6_rehome_74 at hf
              show zG p l e { frames := 3, cells := 0, slots := 0, locals := 70 } s m args below meth c (MQ below (zQ D cA base h hE (some (.int rE))) args s 0 0 (zA base)) 9 D cA base h 74 [(0, .ref (base + r0)), (2, .int x2_74), (3, .int x3_28), (4, .int y17), (5, .int x5_51), (6, .int v19), (7, .int x7_74)] [] h_74
              refine g_iload X 6 dX6_rehome_74 rfl ?_
              refine g_iload X 5 dX6_rehome_76 rfl ?_
              refine g_aload_n X 0 dX6_rehome_78 rfl ?_
              obtain ⟨r_20, hr_20, hf⟩ := zbd hf
              refine g_get X zf6 hk1 3 (by decide) w_f_RX6_18 rfl (zfv_r hr_20 rfl) dX6_rehome_79 ?_
              obtain ⟨hk21, hf⟩ := zite hf
              refine g_get X zf0 hk21 12 (by decide) w_f_RX6_83 rfl rfl dX6_rehome_82 ?_
              refine g_iadd X dX6_rehome_85 ?_
              refine g_icmp_ge X 182 dX6_rehome_86 (by decide) (fun hq => ?_) (fun hq => ?_)
              · have hf := zpos hq hf
                cases hf
                have hc1 := hc1 (by decide)
                exact g_sub [0, 1, 2, 3, 4] rfl (zun_n (by decide) hc1)
              · have hf := zneg hq hf
                refine g_aload_n X 0 dX6_rehome_89 rfl ?_
                obtain ⟨r_22, hr_22, hf⟩ := zbd hf
                refine g_get X zf6 hk1 9 (by decide) w_f_RX6_34 rfl (zfv_r hr_22 rfl) dX6_rehome_90 ?_
                refine g_iload X 6 dX6_rehome_93 rfl ?_
                obtain ⟨hk23, hf⟩ := zite hf
                obtain ⟨hi24, hf⟩ := zite hf
                refine g_iald X hk23 hi24 dX6_rehome_95 ?_
                refine g_iconst X (v := 1) dX6_rehome_96 (by decide) ?_
                refine g_isub X dX6_rehome_97 ?_
                refine g_topi (fun y25 ey25 => ?_)
                have hf := zlet_n ey25 hf
                refine g_istore X [(8, .int y25), (0, .ref (base + r0)), (2, .int x2_74), (3, .int x3_28), (4, .int y17), (5, .int x5_51), (6, .int v19), (7, .int x7_74)] dX6_rehome_98 (by decide) rfl ?_
                refine g_iload X 0 dX6_rehome_100 rfl ?_
                refine g_if_ge X 115 dX6_rehome_102 (by decide) (fun hq => ?_) (fun hq => ?_)
                · have hf := zpos hq hf
                  refine g_iload X 0 dX6_rehome_115 rfl ?_
                  refine g_aload_n X 1 dX6_rehome_117 rfl ?_
                  refine g_get X zf6 hk1 10 (by decide) w_f_RX6_114 rfl rfl dX6_rehome_118 ?_
                  refine g_icmp_lt X 176 dX6_rehome_121 (by decide) (fun hq => ?_) (fun hq => ?_)
                  · have hf := zpos hq hf
                    obtain ⟨y26, ey26⟩ : ∃ y : Int32, y = x7_74 + (1 : Int32) := ⟨_, rfl⟩
                    have hf := zlet_n ey26 hf
                    refine g_iinc X (j := 7) [(7, .int y26), (8, .int y25), (0, .ref (base + r0)), (2, .int x2_74), (3, .int x3_28), (4, .int y17), (5, .int x5_51), (6, .int v19)] dX6_rehome_176 rfl (by rw [ey26]; rfl) (by decide) rfl ?_
                    refine g_goto X 74 dX6_rehome_179 (by decide) ?_
                    cases hf
                    exact g_sub [2, 3, 4, 5, 6, 7, 0] rfl (hc0 rfl)
                  · have hf := zneg hq hf
                    refine g_aload_n X 1 dX6_rehome_124 rfl ?_
                    obtain ⟨r_27, hr_27, hf⟩ := zbd hf
                    refine g_get X zf6 hk1 13 (by decide) w_f_RX6_43 rfl (zfv_r hr_27 rfl) dX6_rehome_125 ?_
                    refine g_iload X 0 dX6_rehome_128 rfl ?_
                    obtain ⟨hk28, hf⟩ := zite hf
                    obtain ⟨hi29, hf⟩ := zite hf
                    refine g_iald X hk28 hi29 dX6_rehome_130 ?_
                    refine g_aload_n X 1 dX6_rehome_131 rfl ?_
                    refine g_get X zf6 hk1 14 (by decide) w_f_RX6_68 rfl rfl dX6_rehome_132 ?_
                    refine g_icmp_eq X 176 dX6_rehome_135 (by decide) (fun hq => ?_) (fun hq => ?_)
                    · have hf := zpos hq hf
                      obtain ⟨y30, ey30⟩ : ∃ y : Int32, y = x7_74 + (1 : Int32) := ⟨_, rfl⟩
                      have hf := zlet_n ey30 hf
                      refine g_iinc X (j := 7) [(7, .int y30), (8, .int y25), (0, .ref (base + r0)), (2, .int x2_74), (3, .int x3_28), (4, .int y17), (5, .int x5_51), (6, .int v19)] dX6_rehome_176 rfl (by rw [ey30]; rfl) (by decide) rfl ?_
                      refine g_goto X 74 dX6_rehome_179 (by decide) ?_
                      cases hf
                      exact g_sub [2, 3, 4, 5, 6, 7, 0] rfl (hc0 rfl)
                    · have hf := zneg hq hf
                      refine g_iload_n X 2 dX6_rehome_138 rfl ?_
                      refine g_sipush X (v := 300) dX6_rehome_139 (by decide) ?_
                      refine g_icmp_ge X 176 dX6_rehome_142 (by decide) (fun hq => ?_) (fun hq => ?_)
                      · have hf := zpos hq hf
                        obtain ⟨y31, ey31⟩ : ∃ y : Int32, y = x7_74 + (1 : Int32) := ⟨_, rfl⟩
                        have hf := zlet_n ey31 hf
                        refine g_iinc X (j := 7) [(7, .int y31), (8, .int y25), (0, .ref (base + r0)), (2, .int x2_74), (3, .int x3_28), (4, .int y17), (5, .int x5_51), (6, .int v19)] dX6_rehome_176 rfl (by rw [ey31]; rfl) (by decide) rfl ?_
                        refine g_goto X 74 dX6_rehome_179 (by decide) ?_
                        cases hf
                        exact g_sub [2, 3, 4, 5, 6, 7, 0] rfl (hc0 rfl)
                      · have hf := zneg hq hf
                        refine g_aload_n X 1 dX6_rehome_145 rfl ?_
                        obtain ⟨r_32, hr_32, hf⟩ := zbd hf
                        refine g_get X zf6 hk1 13 (by decide) w_f_RX6_43 rfl (zfv_r hr_32 rfl) dX6_rehome_146 ?_
                        refine g_iload X 0 dX6_rehome_149 rfl ?_
                        refine g_aload_n X 1 dX6_rehome_151 rfl ?_
                        refine g_get X zf6 hk1 14 (by decide) w_f_RX6_68 rfl rfl dX6_rehome_152 ?_
                        obtain ⟨hk33, hf⟩ := zite hf
                        obtain ⟨hi34, hf⟩ := zite hf
                        refine g_iast X hk33 hi34 dX6_rehome_155 ?_
                        refine g_hp (fun h35 eh35 => ?_)
                        have hf := zlet_n eh35 hf
                        refine g_aload_n X 1 dX6_rehome_156 rfl ?_
                        obtain ⟨r_36, hr_36, hf⟩ := zbd hf
                        refine g_get X zf6 hk1 12 (by decide) w_f_RX6_40 rfl (zfv_r hr_36 rfl) dX6_rehome_157 ?_
                        refine g_iload X 0 dX6_rehome_160 rfl ?_
                        refine g_iload X 4 dX6_rehome_162 rfl ?_
                        obtain ⟨hk37, hf⟩ := zite hf
                        obtain ⟨hi38, hf⟩ := zite hf
                        refine g_iast X hk37 hi38 dX6_rehome_164 ?_
                        refine g_hp (fun h39 eh39 => ?_)
                        have hf := zlet_n eh39 hf
                        refine g_aload_n X 1 dX6_rehome_165 rfl ?_
                        obtain ⟨r_40, hr_40, hf⟩ := zbd hf
                        refine g_get X zf6 hk1 11 (by decide) w_f_RX6_37 rfl (zfv_r hr_40 rfl) dX6_rehome_166 ?_
                        refine g_iload_n X 2 dX6_rehome_169 rfl ?_
                        refine g_iload X 0 dX6_rehome_170 rfl ?_
                        obtain ⟨hk41, hf⟩ := zite hf
                        obtain ⟨hi42, hf⟩ := zite hf
                        refine g_iast X hk41 hi42 dX6_rehome_172 ?_
                        refine g_hp (fun h43 eh43 => ?_)
                        have hf := zlet_n eh43 hf
                        obtain ⟨y44, ey44⟩ : ∃ y : Int32, y = x2_74 + (1 : Int32) := ⟨_, rfl⟩
                        have hf := zlet_n ey44 hf
                        refine g_iinc X (j := 2) [(2, .int y44), (8, .int y25), (0, .ref (base + r0)), (3, .int x3_28), (4, .int y17), (5, .int x5_51), (6, .int v19), (7, .int x7_74)] dX6_rehome_173 rfl (by rw [ey44]; rfl) (by decide) rfl ?_
                        obtain ⟨y45, ey45⟩ : ∃ y : Int32, y = x7_74 + (1 : Int32) := ⟨_, rfl⟩
                        have hf := zlet_n ey45 hf
                        refine g_iinc X (j := 7) [(7, .int y45), (2, .int y44), (8, .int y25), (0, .ref (base + r0)), (3, .int x3_28), (4, .int y17), (5, .int x5_51), (6, .int v19)] dX6_rehome_176 rfl (by rw [ey45]; rfl) (by decide) rfl ?_
                        refine g_goto X 74 dX6_rehome_179 (by decide) ?_
                        cases hf
                        exact g_sub [3, 1, 4, 5, 6, 7, 0] rfl (hc0 rfl)
                · have hf := zneg hq hf
                  cases hf
                  have hc1 := hc1 (by decide)
                  exact g_sub [1, 4, 7] rfl (zun_p rfl hc1)
            · obtain ⟨ee, x2_k74, x7_k74, h_k74⟩ := qq
              have hf : kX6_rehome_74 h r0 y17 x5_51 ee x2_k74 x7_k74 h_k74 = some (e_51, q_51) := hf
              unfold kX6_rehome_74 at hf
              by_cases hee0 : ee = 1
              · have hf := zpos hee0 hf
                refine zifp hee0 ?_
                show zG p l e { frames := 3, cells := 0, slots := 0, locals := 70 } s m args below meth c (MQ below (zQ D cA base h hE (some (.int rE))) args s 0 0 (zA base)) 9 D cA base h 105 [(0, .ref (base + r0)), (4, .int y17), (7, .int x7_k74)] [] h_k74
                cases hf
                have hc1 := hc1 (by decide)
                exact g_sub [0, 1, 2] rfl (zun_p rfl hc1)
              have hf := zneg hee0 hf
              refine zifn hee0 ?_
              show zG p l e { frames := 3, cells := 0, slots := 0, locals := 70 } s m args below meth c (MQ below (zQ D cA base h hE (some (.int rE))) args s 0 0 (zA base)) 9 D cA base h 182 [(0, .ref (base + r0)), (2, .int x2_k74), (3, .int x3_28), (4, .int y17), (5, .int x5_51)] [] h_k74
              obtain ⟨y46, ey46⟩ : ∃ y : Int32, y = x5_51 + (1 : Int32) := ⟨_, rfl⟩
              have hf := zlet_n ey46 hf
              refine g_iinc X (j := 4) [(5, .int y46), (0, .ref (base + r0)), (2, .int x2_k74), (3, .int x3_28), (4, .int y17)] dX6_rehome_182 rfl (by rw [ey46]; rfl) (by decide) rfl ?_
              refine g_goto X 51 dX6_rehome_185 (by decide) ?_
              cases hf
              exact g_sub [1, 2, 3, 4, 0] rfl (hc0 rfl)
        · obtain ⟨ee, x2_k51, x5_k51, x7_k51, h_k51⟩ := qq
          have hf : kX6_rehome_51 h r0 x3_28 y17 ee x2_k51 x5_k51 x7_k51 h_k51 = some (e_28, q_28) := hf
          unfold kX6_rehome_51 at hf
          by_cases hee0 : ee = 1
          · have hf := zpos hee0 hf
            refine zifp hee0 ?_
            show zG p l e { frames := 3, cells := 0, slots := 0, locals := 70 } s m args below meth c (MQ below (zQ D cA base h hE (some (.int rE))) args s 0 0 (zA base)) 9 D cA base h 105 [(0, .ref (base + r0)), (4, .int y17), (7, .int x7_k51)] [] h_k51
            cases hf
            have hc1 := hc1 (by decide)
            exact g_sub [0, 1, 2] rfl (zun_p rfl hc1)
          have hf := zneg hee0 hf
          refine zifn hee0 ?_
          show zG p l e { frames := 3, cells := 0, slots := 0, locals := 70 } s m args below meth c (MQ below (zQ D cA base h hE (some (.int rE))) args s 0 0 (zA base)) 9 D cA base h 188 [(0, .ref (base + r0)), (2, .int x2_k51), (3, .int x3_28)] [] h_k51
          obtain ⟨y47, ey47⟩ : ∃ y : Int32, y = x3_28 + (1 : Int32) := ⟨_, rfl⟩
          have hf := zlet_n ey47 hf
          refine g_iinc X (j := 2) [(3, .int y47), (0, .ref (base + r0)), (2, .int x2_k51)] dX6_rehome_188 rfl (by rw [ey47]; rfl) (by decide) rfl ?_
          refine g_goto X 28 dX6_rehome_191 (by decide) ?_
          cases hf
          exact g_sub [1, 2, 0] rfl (hc0 rfl)
  · obtain ⟨ee, x2_k28, x3_k28, x4_k28, x7_k28, h_k28⟩ := qq
    have hf : kX6_rehome_28 h r0 ee x2_k28 x3_k28 x4_k28 x7_k28 h_k28 = some (rE, hE) := hf
    unfold kX6_rehome_28 at hf
    by_cases hee0 : ee = 1
    · have hf := zpos hee0 hf
      refine zifp hee0 ?_
      show zG p l e { frames := 3, cells := 0, slots := 0, locals := 70 } s m args below meth c (MQ below (zQ D cA base h hE (some (.int rE))) args s 0 0 (zA base)) 9 D cA base h 105 [(0, .ref (base + r0)), (4, .int x4_k28), (7, .int x7_k28)] [] h_k28
      refine g_aload_n X 0 dX6_rehome_105 rfl ?_
      refine g_iload X 1 dX6_rehome_106 rfl ?_
      refine g_iload X 2 dX6_rehome_108 rfl ?_
      obtain ⟨h48, hch48, hf⟩ := zbd hf
      refine g_callV X 2 (sX6_hurry hch48) zf6 hk1 ydX6_hurry w_ml_RX6_134 w_instanceMethod_X6_hurry w_sel_X6_hurry w_ini_RX6 w_code_X6_hurry (by decide) rfl (st := []) rfl rfl (Nat.le_of_ble_eq_true rfl) dX6_rehome_110 ?_
      refine g_iconst X (v := 1) dX6_rehome_113 (by decide) ?_
      obtain ⟨rfl, rfl⟩ := zsm hf
      exact g_zret X (Or.inr rfl) hr dX6_rehome_114
    have hf := zneg hee0 hf
    refine zifn hee0 ?_
    show zG p l e { frames := 3, cells := 0, slots := 0, locals := 70 } s m args below meth c (MQ below (zQ D cA base h hE (some (.int rE))) args s 0 0 (zA base)) 9 D cA base h 194 [] [] h_k28
    refine g_iconst X (v := 0) dX6_rehome_194 (by decide) ?_
    obtain ⟨rfl, rfl⟩ := zsm hf
    exact g_zret X (Or.inl rfl) hr dX6_rehome_195

set_option maxHeartbeats 4000000 in
set_option maxRecDepth 100000 in
theorem sX6_settleLeast {l : Launch} {D : va_G} {cA : Nat → ClassId} {base : Nat} {sA : Nat → Nat} {r0 : Nat} {x1 : Int32} {h hE : Zh} (hf : fX6_settleLeast r0 x1 h = some hE) : zC l yX6_settleLeast cX6_settleLeast 6 none 4 98 D cA base sA [.ref (base + r0), .int x1] h none hE := by
  refine g_entry RX6 (by decide) rfl (Nat.le_of_ble_eq_true rfl) ?_
  intro p e s m args below meth c X hr
  unfold fX6_settleLeast at hf
  have hf := zlet_n (x := h) rfl hf
  show zG p l e { frames := 4, cells := 0, slots := 0, locals := 98 } s m args below meth c (MQ below (zQ D cA base h hE none) args s 0 0 (zA base)) 6 D cA base h 0 [(0, .ref (base + r0)), (1, .int x1)] [] h
  refine g_aload_n X 0 dX6_settleLeast_0 rfl ?_
  obtain ⟨hk1, hf⟩ := zite hf
  obtain ⟨r_2, hr_2, hf⟩ := zbd hf
  refine g_get X zf6 hk1 9 (by decide) w_f_RX6_34 rfl (zfv_r hr_2 rfl) dX6_settleLeast_1 ?_
  refine g_aload_n X 0 dX6_settleLeast_4 rfl ?_
  obtain ⟨r_3, hr_3, hf⟩ := zbd hf
  refine g_get X zf6 hk1 0 (by decide) w_f_RX6_9 rfl (zfv_r hr_3 rfl) dX6_settleLeast_5 ?_
  refine g_iload_n X 1 dX6_settleLeast_8 rfl ?_
  obtain ⟨hk4, hf⟩ := zite hf
  obtain ⟨hi5, hf⟩ := zite hf
  refine g_iald X hk4 hi5 dX6_settleLeast_9 ?_
  refine g_iconst X (v := 0) dX6_settleLeast_10 (by decide) ?_
  obtain ⟨hk6, hf⟩ := zite hf
  obtain ⟨hi7, hf⟩ := zite hf
  refine g_iast X hk6 hi7 dX6_settleLeast_11 ?_
  refine g_hp (fun h8 eh8 => ?_)
  have hf := zlet_n eh8 hf
  refine g_aload_n X 0 dX6_settleLeast_12 rfl ?_
  refine g_iload_n X 1 dX6_settleLeast_13 rfl ?_
  refine g_iconst X (v := 1) dX6_settleLeast_14 (by decide) ?_
  refine g_iadd X dX6_settleLeast_15 ?_
  refine g_putI X zf6 hk1 10 (by decide) w_f_RX6_114 rfl rfl rfl dX6_settleLeast_16 ?_
  refine g_hp (fun h9 eh9 => ?_)
  have hf := zlet_n eh9 hf
  refine g_aload_n X 0 dX6_settleLeast_19 rfl ?_
  refine g_dup X dX6_settleLeast_20 rfl ?_
  refine g_get X zf6 hk1 14 (by decide) w_f_RX6_68 rfl rfl dX6_settleLeast_21 ?_
  refine g_iconst X (v := 1) dX6_settleLeast_24 (by decide) ?_
  refine g_iadd X dX6_settleLeast_25 ?_
  refine g_putI X zf6 hk1 14 (by decide) w_f_RX6_68 rfl rfl rfl dX6_settleLeast_26 ?_
  refine g_hp (fun h10 eh10 => ?_)
  have hf := zlet_n eh10 hf
  refine g_iconst X (v := 0) dX6_settleLeast_29 (by decide) ?_
  refine g_istore_n X [(2, .int ((0 : Int32))), (0, .ref (base + r0)), (1, .int x1)] dX6_settleLeast_30 (by decide) rfl ?_
  refine g_sub [1, 2, 0] rfl ?_
  obtain ⟨qq, hlp, hf⟩ := zbd hf
  refine lp_snd (body := (fun q : Int32 × Int32 × Zh => bX6_settleLeast_31 h r0 x1 q.1 q.2.1 q.2.2)) (P := (fun q : Int32 × Int32 × Zh => zG p l e { frames := 4, cells := 0, slots := 0, locals := 98 } s m args below meth c (MQ below (zQ D cA base h hE none) args s 0 0 (zA base)) 6 D cA base h 31 [(0, .ref (base + r0)), (1, .int x1), (2, .int q.1)] [] q.2.2)) (E := (fun (en : Nat) (q : Int32 × Int32 × Zh) => if en = 1 then zG p l e { frames := 4, cells := 0, slots := 0, locals := 98 } s m args below meth c (MQ below (zQ D cA base h hE none) args s 0 0 (zA base)) 6 D cA base h 108 [(0, .ref (base + r0)), (1, .int x1), (4, .int q.2.1)] [] q.2.2 else zG p l e { frames := 4, cells := 0, slots := 0, locals := 98 } s m args below meth c (MQ below (zQ D cA base h hE none) args s 0 0 (zA base)) 6 D cA base h 139 [] [] q.2.2)) ?_ zB ((0 : Int32), (0, h10)) qq.1 qq.2 hlp ?_
  · intro q e_31 q_31 hf hc0 hc1
    obtain ⟨x2_31, x4_31, h_31⟩ := q
    have hf : bX6_settleLeast_31 h r0 x1 x2_31 x4_31 h_31 = some (e_31, q_31) := hf
    unfold bX6_settleLeast_31 at hf
    show zG p l e { frames := 4, cells := 0, slots := 0, locals := 98 } s m args below meth c (MQ below (zQ D cA base h hE none) args s 0 0 (zA base)) 6 D cA base h 31 [(0, .ref (base + r0)), (1, .int x1), (2, .int x2_31)] [] h_31
    refine g_iload_n X 2 dX6_settleLeast_31 rfl ?_
    refine g_aload_n X 0 dX6_settleLeast_32 rfl ?_
    refine g_get X zf6 hk1 6 (by decide) w_f_RX6_86 rfl rfl dX6_settleLeast_33 ?_
    refine g_icmp_ge X 139 dX6_settleLeast_36 (by decide) (fun hq => ?_) (fun hq => ?_)
    · have hf := zpos hq hf
      cases hf
      have hc1 := hc1 (by decide)
      exact g_sub [] rfl (zun_n (by decide) hc1)
    · have hf := zneg hq hf
      refine g_aload_n X 0 dX6_settleLeast_39 rfl ?_
      refine g_iload_n X 1 dX6_settleLeast_40 rfl ?_
      refine g_iload_n X 2 dX6_settleLeast_41 rfl ?_
      obtain ⟨v12, h11, hch11, hf⟩ := zc2_e hf
      refine g_callV X 2 (sX6_rowAt hch11) zf6 hk1 ydX6_rowAt w_ml_RX6_123 w_instanceMethod_X6_rowAt w_sel_X6_rowAt w_ini_RX6 w_code_X6_rowAt (by decide) rfl (st := []) rfl rfl (Nat.le_of_ble_eq_true rfl) dX6_settleLeast_42 ?_
      refine g_istore_n X [(3, .int v12), (0, .ref (base + r0)), (1, .int x1), (2, .int x2_31)] dX6_settleLeast_45 (by decide) rfl ?_
      refine g_iload_n X 0 dX6_settleLeast_46 rfl ?_
      refine g_istore X [(4, .int v12), (3, .int v12), (0, .ref (base + r0)), (1, .int x1), (2, .int x2_31)] dX6_settleLeast_47 (by decide) rfl ?_
      refine g_sub [2, 3, 4, 1, 0] rfl ?_
      obtain ⟨qq, hlp, hf⟩ := zbd hf
      refine lp_snd (body := (fun q : Int32 × Zh => bX6_settleLeast_49 h r0 x1 v12 q.1 q.2)) (P := (fun q : Int32 × Zh => zG p l e { frames := 4, cells := 0, slots := 0, locals := 98 } s m args below meth c (MQ below (zQ D cA base h hE none) args s 0 0 (zA base)) 6 D cA base h 49 [(0, .ref (base + r0)), (1, .int x1), (2, .int x2_31), (3, .int v12), (4, .int q.1)] [] q.2)) (E := (fun (en : Nat) (q : Int32 × Zh) => if en = 1 then zG p l e { frames := 4, cells := 0, slots := 0, locals := 98 } s m args below meth c (MQ below (zQ D cA base h hE none) args s 0 0 (zA base)) 6 D cA base h 108 [(0, .ref (base + r0)), (1, .int x1), (4, .int q.1)] [] q.2 else zG p l e { frames := 4, cells := 0, slots := 0, locals := 98 } s m args below meth c (MQ below (zQ D cA base h hE none) args s 0 0 (zA base)) 6 D cA base h 133 [(0, .ref (base + r0)), (1, .int x1), (2, .int x2_31)] [] q.2)) ?_ zB (v12, h11) qq.1 qq.2 hlp ?_
      · intro q e_49 q_49 hf hc0 hc1
        obtain ⟨x4_49, h_49⟩ := q
        have hf : bX6_settleLeast_49 h r0 x1 v12 x4_49 h_49 = some (e_49, q_49) := hf
        unfold bX6_settleLeast_49 at hf
        show zG p l e { frames := 4, cells := 0, slots := 0, locals := 98 } s m args below meth c (MQ below (zQ D cA base h hE none) args s 0 0 (zA base)) 6 D cA base h 49 [(0, .ref (base + r0)), (1, .int x1), (2, .int x2_31), (3, .int v12), (4, .int x4_49)] [] h_49
        refine g_iload X 4 dX6_settleLeast_49 rfl ?_
        refine g_iload_n X 3 dX6_settleLeast_51 rfl ?_
        refine g_aload_n X 0 dX6_settleLeast_52 rfl ?_
        obtain ⟨r_13, hr_13, hf⟩ := zbd hf
        refine g_get X zf6 hk1 3 (by decide) w_f_RX6_18 rfl (zfv_r hr_13 rfl) dX6_settleLeast_53 ?_
        obtain ⟨hk14, hf⟩ := zite hf
        refine g_get X zf0 hk14 12 (by decide) w_f_RX6_83 rfl rfl dX6_settleLeast_56 ?_
        refine g_iadd X dX6_settleLeast_59 ?_
        refine g_icmp_ge X 133 dX6_settleLeast_60 (by decide) (fun hq => ?_) (fun hq => ?_)
        · have hf := zpos hq hf
          cases hf
          have hc1 := hc1 (by decide)
          exact g_sub [0, 1, 2] rfl (zun_n (by decide) hc1)
        · have hf := zneg hq hf
          refine g_aload_n X 0 dX6_settleLeast_63 rfl ?_
          obtain ⟨r_15, hr_15, hf⟩ := zbd hf
          refine g_get X zf6 hk1 9 (by decide) w_f_RX6_34 rfl (zfv_r hr_15 rfl) dX6_settleLeast_64 ?_
          refine g_iload X 4 dX6_settleLeast_67 rfl ?_
          obtain ⟨hk16, hf⟩ := zite hf
          obtain ⟨hi17, hf⟩ := zite hf
          refine g_iald X hk16 hi17 dX6_settleLeast_69 ?_
          refine g_iconst X (v := 1) dX6_settleLeast_70 (by decide) ?_
          refine g_isub X dX6_settleLeast_71 ?_
          refine g_topi (fun y18 ey18 => ?_)
          have hf := zlet_n ey18 hf
          refine g_istore X [(5, .int y18), (0, .ref (base + r0)), (1, .int x1), (2, .int x2_31), (3, .int v12), (4, .int x4_49)] dX6_settleLeast_72 (by decide) rfl ?_
          refine g_iload X 0 dX6_settleLeast_74 rfl ?_
          refine g_if_lt X 108 dX6_settleLeast_76 (by decide) (fun hq => ?_) (fun hq => ?_)
          · have hf := zpos hq hf
            cases hf
            have hc1 := hc1 (by decide)
            exact g_sub [1, 2, 5] rfl (zun_p rfl hc1)
          · have hf := zneg hq hf
            refine g_iload X 0 dX6_settleLeast_79 rfl ?_
            refine g_iload_n X 2 dX6_settleLeast_81 rfl ?_
            refine g_icmp_le X 127 dX6_settleLeast_82 (by decide) (fun hq => ?_) (fun hq => ?_)
            · have hf := zpos hq hf
              obtain ⟨y19, ey19⟩ : ∃ y : Int32, y = x4_49 + (1 : Int32) := ⟨_, rfl⟩
              have hf := zlet_n ey19 hf
              refine g_iinc X (j := 5) [(4, .int y19), (5, .int y18), (0, .ref (base + r0)), (1, .int x1), (2, .int x2_31), (3, .int v12)] dX6_settleLeast_127 rfl (by rw [ey19]; rfl) (by decide) rfl ?_
              refine g_goto X 49 dX6_settleLeast_130 (by decide) ?_
              cases hf
              exact g_sub [2, 3, 4, 5, 0] rfl (hc0 rfl)
            · have hf := zneg hq hf
              refine g_aload_n X 1 dX6_settleLeast_85 rfl ?_
              obtain ⟨r_20, hr_20, hf⟩ := zbd hf
              refine g_get X zf6 hk1 13 (by decide) w_f_RX6_43 rfl (zfv_r hr_20 rfl) dX6_settleLeast_86 ?_
              refine g_iload X 0 dX6_settleLeast_89 rfl ?_
              obtain ⟨hk21, hf⟩ := zite hf
              obtain ⟨hi22, hf⟩ := zite hf
              refine g_iald X hk21 hi22 dX6_settleLeast_91 ?_
              refine g_aload_n X 1 dX6_settleLeast_92 rfl ?_
              refine g_get X zf6 hk1 14 (by decide) w_f_RX6_68 rfl rfl dX6_settleLeast_93 ?_
              refine g_icmp_eq X 127 dX6_settleLeast_96 (by decide) (fun hq => ?_) (fun hq => ?_)
              · have hf := zpos hq hf
                obtain ⟨y23, ey23⟩ : ∃ y : Int32, y = x4_49 + (1 : Int32) := ⟨_, rfl⟩
                have hf := zlet_n ey23 hf
                refine g_iinc X (j := 5) [(4, .int y23), (5, .int y18), (0, .ref (base + r0)), (1, .int x1), (2, .int x2_31), (3, .int v12)] dX6_settleLeast_127 rfl (by rw [ey23]; rfl) (by decide) rfl ?_
                refine g_goto X 49 dX6_settleLeast_130 (by decide) ?_
                cases hf
                exact g_sub [2, 3, 4, 5, 0] rfl (hc0 rfl)
              · have hf := zneg hq hf
                refine g_aload_n X 1 dX6_settleLeast_99 rfl ?_
                refine g_iload X 0 dX6_settleLeast_100 rfl ?_
                obtain ⟨v25, h24, hch24, hf⟩ := zc2_e hf
                refine g_callV X 1 (sX6_rehome hch24) zf6 hk1 ydX6_rehome w_ml_RX6_71 w_instanceMethod_X6_rehome w_sel_X6_rehome w_ini_RX6 w_code_X6_rehome (by decide) rfl (st := []) rfl rfl (Nat.le_of_ble_eq_true rfl) dX6_settleLeast_102 ?_
                refine g_if_eq X 127 dX6_settleLeast_105 (by decide) (fun hq => ?_) (fun hq => ?_)
                · have hf := zpos hq hf
                  obtain ⟨y26, ey26⟩ : ∃ y : Int32, y = x4_49 + (1 : Int32) := ⟨_, rfl⟩
                  have hf := zlet_n ey26 hf
                  refine g_iinc X (j := 5) [(4, .int y26), (5, .int y18), (0, .ref (base + r0)), (1, .int x1), (2, .int x2_31), (3, .int v12)] dX6_settleLeast_127 rfl (by rw [ey26]; rfl) (by decide) rfl ?_
                  refine g_goto X 49 dX6_settleLeast_130 (by decide) ?_
                  cases hf
                  exact g_sub [2, 3, 4, 5, 0] rfl (hc0 rfl)
                · have hf := zneg hq hf
                  cases hf
                  have hc1 := hc1 (by decide)
                  exact g_sub [1, 2, 5] rfl (zun_p rfl hc1)
      · obtain ⟨ee, x4_k49, h_k49⟩ := qq
        have hf : kX6_settleLeast_49 h r0 x1 x2_31 ee x4_k49 h_k49 = some (e_31, q_31) := hf
        unfold kX6_settleLeast_49 at hf
        by_cases hee0 : ee = 1
        · have hf := zpos hee0 hf
          refine zifp hee0 ?_
          show zG p l e { frames := 4, cells := 0, slots := 0, locals := 98 } s m args below meth c (MQ below (zQ D cA base h hE none) args s 0 0 (zA base)) 6 D cA base h 108 [(0, .ref (base + r0)), (1, .int x1), (4, .int x4_k49)] [] h_k49
          cases hf
          have hc1 := hc1 (by decide)
          exact g_sub [0, 1, 2] rfl (zun_p rfl hc1)
        have hf := zneg hee0 hf
        refine zifn hee0 ?_
        show zG p l e { frames := 4, cells := 0, slots := 0, locals := 98 } s m args below meth c (MQ below (zQ D cA base h hE none) args s 0 0 (zA base)) 6 D cA base h 133 [(0, .ref (base + r0)), (1, .int x1), (2, .int x2_31)] [] h_k49
        obtain ⟨y27, ey27⟩ : ∃ y : Int32, y = x2_31 + (1 : Int32) := ⟨_, rfl⟩
        have hf := zlet_n ey27 hf
        refine g_iinc X (j := 2) [(2, .int y27), (0, .ref (base + r0)), (1, .int x1)] dX6_settleLeast_133 rfl (by rw [ey27]; rfl) (by decide) rfl ?_
        refine g_goto X 31 dX6_settleLeast_136 (by decide) ?_
        cases hf
        exact g_sub [1, 2, 0] rfl (hc0 rfl)
  · obtain ⟨ee, x2_k31, x4_k31, h_k31⟩ := qq
    have hf : kX6_settleLeast_31 h r0 x1 ee x2_k31 x4_k31 h_k31 = some hE := hf
    unfold kX6_settleLeast_31 at hf
    by_cases hee0 : ee = 1
    · have hf := zpos hee0 hf
      refine zifp hee0 ?_
      show zG p l e { frames := 4, cells := 0, slots := 0, locals := 98 } s m args below meth c (MQ below (zQ D cA base h hE none) args s 0 0 (zA base)) 6 D cA base h 108 [(0, .ref (base + r0)), (1, .int x1), (4, .int x4_k31)] [] h_k31
      refine g_aload_n X 0 dX6_settleLeast_108 rfl ?_
      obtain ⟨r_28, hr_28, hf⟩ := zbd hf
      refine g_get X zf6 hk1 0 (by decide) w_f_RX6_9 rfl (zfv_r hr_28 rfl) dX6_settleLeast_109 ?_
      refine g_iload_n X 1 dX6_settleLeast_112 rfl ?_
      refine g_iload X 2 dX6_settleLeast_113 rfl ?_
      obtain ⟨hk29, hf⟩ := zite hf
      obtain ⟨hi30, hf⟩ := zite hf
      refine g_iast X hk29 hi30 dX6_settleLeast_115 ?_
      refine g_hp (fun h31 eh31 => ?_)
      have hf := zlet_n eh31 hf
      refine g_aload_n X 0 dX6_settleLeast_116 rfl ?_
      obtain ⟨r_32, hr_32, hf⟩ := zbd hf
      refine g_get X zf6 hk1 9 (by decide) w_f_RX6_34 rfl (zfv_r hr_32 rfl) dX6_settleLeast_117 ?_
      refine g_iload X 2 dX6_settleLeast_120 rfl ?_
      refine g_iload_n X 1 dX6_settleLeast_122 rfl ?_
      refine g_iconst X (v := 1) dX6_settleLeast_123 (by decide) ?_
      refine g_iadd X dX6_settleLeast_124 ?_
      obtain ⟨hk33, hf⟩ := zite hf
      obtain ⟨hi34, hf⟩ := zite hf
      refine g_iast X hk33 hi34 dX6_settleLeast_125 ?_
      refine g_hp (fun h35 eh35 => ?_)
      have hf := zlet_n eh35 hf
      cases hf
      exact g_vret X hr dX6_settleLeast_126
    have hf := zneg hee0 hf
    refine zifn hee0 ?_
    show zG p l e { frames := 4, cells := 0, slots := 0, locals := 98 } s m args below meth c (MQ below (zQ D cA base h hE none) args s 0 0 (zA base)) 6 D cA base h 139 [] [] h_k31
    cases hf
    exact g_vret X hr dX6_settleLeast_139

set_option maxHeartbeats 4000000 in
set_option maxRecDepth 100000 in
theorem sX7_fail {l : Launch} {D : va_G} {cA : Nat → ClassId} {base : Nat} {sA : Nat → Nat} {r0 : Nat} {x1 : Int32} {h hE : Zh} {rE : Int32} (hf : fX7_fail r0 x1 h = some (rE, hE)) : zC l yX7_fail cX7_fail 2 (some .boolean) 0 0 D cA base sA [.ref (base + r0), .int x1] h (some (.int rE)) hE := by
  refine g_entry RX7 (by decide) rfl (Nat.le_of_ble_eq_true rfl) ?_
  intro p e s m args below meth c X hr
  unfold fX7_fail at hf
  have hf := zlet_n (x := h) rfl hf
  show zG p l e { frames := 0, cells := 0, slots := 0, locals := 0 } s m args below meth c (MQ below (zQ D cA base h hE (some (.int rE))) args s 0 0 (zA base)) 2 D cA base h 0 [(0, .ref (base + r0)), (1, .int x1)] [] h
  refine g_aload_n X 0 dX7_fail_0 rfl ?_
  refine g_iload_n X 1 dX7_fail_1 rfl ?_
  obtain ⟨hk1, hf⟩ := zite hf
  refine g_putI X zf7 hk1 0 (by decide) w_f_RX7_45 rfl rfl rfl dX7_fail_2 ?_
  refine g_hp (fun h2 eh2 => ?_)
  have hf := zlet_n eh2 hf
  refine g_aload_n X 0 dX7_fail_5 rfl ?_
  refine g_aload_n X 0 dX7_fail_6 rfl ?_
  refine g_get X zf7 hk1 9 (by decide) w_f_RX7_68 rfl rfl dX7_fail_7 ?_
  refine g_putI X zf7 hk1 1 (by decide) w_f_RX7_48 rfl rfl rfl dX7_fail_10 ?_
  refine g_hp (fun h3 eh3 => ?_)
  have hf := zlet_n eh3 hf
  refine g_iconst X (v := 0) dX7_fail_13 (by decide) ?_
  obtain ⟨rfl, rfl⟩ := zsm hf
  exact g_zret X (Or.inl rfl) hr dX7_fail_14

set_option maxHeartbeats 4000000 in
set_option maxRecDepth 100000 in
theorem sX7_runLength {l : Launch} {D : va_G} {cA : Nat → ClassId} {base : Nat} {sA : Nat → Nat} {r0 : Nat} {x1 : Int32} {x2 : Int32} {h hE : Zh} {rE : Int32} (hf : fX7_runLength r0 x1 x2 h = some (rE, hE)) : zC l yX7_runLength cX7_runLength 3 (some .int) 0 0 D cA base sA [.ref (base + r0), .int x1, .int x2] h (some (.int rE)) hE := by
  refine g_entry RX7 (by decide) rfl (Nat.le_of_ble_eq_true rfl) ?_
  intro p e s m args below meth c X hr
  unfold fX7_runLength at hf
  have hf := zlet_n (x := h) rfl hf
  show zG p l e { frames := 0, cells := 0, slots := 0, locals := 0 } s m args below meth c (MQ below (zQ D cA base h hE (some (.int rE))) args s 0 0 (zA base)) 3 D cA base h 0 [(0, .ref (base + r0)), (1, .int x1), (2, .int x2)] [] h
  refine g_aload_n X 0 dX7_runLength_0 rfl ?_
  refine g_iconst X (v := 0) dX7_runLength_1 (by decide) ?_
  obtain ⟨hk1, hf⟩ := zite hf
  refine g_putI X zf7 hk1 11 (by decide) w_f_RX7_74 rfl rfl rfl dX7_runLength_2 ?_
  refine g_hp (fun h2 eh2 => ?_)
  have hf := zlet_n eh2 hf
  refine g_sub [0, 1, 2] rfl ?_
  obtain ⟨qq, hlp, hf⟩ := zbd hf
  refine lp_snd (body := (fun q : Zh => bX7_runLength_5 h r0 x1 x2 q)) (P := (fun q : Zh => zG p l e { frames := 0, cells := 0, slots := 0, locals := 0 } s m args below meth c (MQ below (zQ D cA base h hE (some (.int rE))) args s 0 0 (zA base)) 3 D cA base h 5 [(0, .ref (base + r0)), (1, .int x1), (2, .int x2)] [] q)) (E := (fun (en : Nat) (q : Zh) => zG p l e { frames := 0, cells := 0, slots := 0, locals := 0 } s m args below meth c (MQ below (zQ D cA base h hE (some (.int rE))) args s 0 0 (zA base)) 3 D cA base h 78 [(0, .ref (base + r0))] [] q)) ?_ zB h2 qq.1 qq.2 hlp ?_
  · intro h_5 e_5 q_5 hf hc0 hc1
    have hf : bX7_runLength_5 h r0 x1 x2 h_5 = some (e_5, q_5) := hf
    unfold bX7_runLength_5 at hf
    show zG p l e { frames := 0, cells := 0, slots := 0, locals := 0 } s m args below meth c (MQ below (zQ D cA base h hE (some (.int rE))) args s 0 0 (zA base)) 3 D cA base h 5 [(0, .ref (base + r0)), (1, .int x1), (2, .int x2)] [] h_5
    refine g_aload_n X 0 dX7_runLength_5 rfl ?_
    refine g_get X zf7 hk1 10 (by decide) w_f_RX7_51 rfl rfl dX7_runLength_6 ?_
    refine g_aload_n X 0 dX7_runLength_9 rfl ?_
    refine g_get X zf7 hk1 3 (by decide) w_f_RX7_38 rfl rfl dX7_runLength_10 ?_
    refine g_icmp_ge X 78 dX7_runLength_13 (by decide) (fun hq => ?_) (fun hq => ?_)
    · have hf := zpos hq hf
      cases hf
      have hc1 := hc1 (by decide)
      exact g_sub [0] rfl hc1
    · have hf := zneg hq hf
      refine g_aload_n X 0 dX7_runLength_16 rfl ?_
      obtain ⟨r_3, hr_3, hf⟩ := zbd hf
      refine g_get X zf7 hk1 2 (by decide) w_f_RX7_9 rfl (zfv_r hr_3 rfl) dX7_runLength_17 ?_
      refine g_aload_n X 0 dX7_runLength_20 rfl ?_
      refine g_get X zf7 hk1 10 (by decide) w_f_RX7_51 rfl rfl dX7_runLength_21 ?_
      obtain ⟨hk4, hf⟩ := zite hf
      obtain ⟨hi5, hf⟩ := zite hf
      refine g_bald X hk4 hi5 dX7_runLength_24 ?_
      refine g_iload_n X 1 dX7_runLength_25 rfl ?_
      refine g_icmp_lt X 78 dX7_runLength_26 (by decide) (fun hq => ?_) (fun hq => ?_)
      · have hf := zpos hq hf
        cases hf
        have hc1 := hc1 (by decide)
        exact g_sub [0] rfl hc1
      · have hf := zneg hq hf
        refine g_aload_n X 0 dX7_runLength_29 rfl ?_
        obtain ⟨r_6, hr_6, hf⟩ := zbd hf
        refine g_get X zf7 hk1 2 (by decide) w_f_RX7_9 rfl (zfv_r hr_6 rfl) dX7_runLength_30 ?_
        refine g_aload_n X 0 dX7_runLength_33 rfl ?_
        refine g_get X zf7 hk1 10 (by decide) w_f_RX7_51 rfl rfl dX7_runLength_34 ?_
        obtain ⟨hk7, hf⟩ := zite hf
        obtain ⟨hi8, hf⟩ := zite hf
        refine g_bald X hk7 hi8 dX7_runLength_37 ?_
        refine g_iload_n X 2 dX7_runLength_38 rfl ?_
        refine g_icmp_gt X 78 dX7_runLength_39 (by decide) (fun hq => ?_) (fun hq => ?_)
        · have hf := zpos hq hf
          cases hf
          have hc1 := hc1 (by decide)
          exact g_sub [0] rfl hc1
        · have hf := zneg hq hf
          refine g_aload_n X 0 dX7_runLength_42 rfl ?_
          refine g_aload_n X 0 dX7_runLength_43 rfl ?_
          refine g_get X zf7 hk1 11 (by decide) w_f_RX7_74 rfl rfl dX7_runLength_44 ?_
          refine g_bipush X (v := 10) dX7_runLength_47 (by decide) ?_
          refine g_imul X dX7_runLength_49 ?_
          refine g_aload_n X 0 dX7_runLength_50 rfl ?_
          obtain ⟨r_9, hr_9, hf⟩ := zbd hf
          refine g_get X zf7 hk1 2 (by decide) w_f_RX7_9 rfl (zfv_r hr_9 rfl) dX7_runLength_51 ?_
          refine g_aload_n X 0 dX7_runLength_54 rfl ?_
          refine g_get X zf7 hk1 10 (by decide) w_f_RX7_51 rfl rfl dX7_runLength_55 ?_
          obtain ⟨hk10, hf⟩ := zite hf
          obtain ⟨hi11, hf⟩ := zite hf
          refine g_bald X hk10 hi11 dX7_runLength_58 ?_
          refine g_iload_n X 1 dX7_runLength_59 rfl ?_
          refine g_isub X dX7_runLength_60 ?_
          refine g_iadd X dX7_runLength_61 ?_
          refine g_putI X zf7 hk1 11 (by decide) w_f_RX7_74 rfl rfl rfl dX7_runLength_62 ?_
          refine g_hp (fun h12 eh12 => ?_)
          have hf := zlet_n eh12 hf
          refine g_aload_n X 0 dX7_runLength_65 rfl ?_
          refine g_dup X dX7_runLength_66 rfl ?_
          refine g_get X zf7 hk1 10 (by decide) w_f_RX7_51 rfl rfl dX7_runLength_67 ?_
          refine g_iconst X (v := 1) dX7_runLength_70 (by decide) ?_
          refine g_iadd X dX7_runLength_71 ?_
          refine g_putI X zf7 hk1 10 (by decide) w_f_RX7_51 rfl rfl rfl dX7_runLength_72 ?_
          refine g_hp (fun h13 eh13 => ?_)
          have hf := zlet_n eh13 hf
          refine g_goto X 5 dX7_runLength_75 (by decide) ?_
          cases hf
          exact g_sub [0, 1, 2] rfl (hc0 rfl)
  · obtain ⟨ee, h_k5⟩ := qq
    have hf : kX7_runLength_5 h r0 ee h_k5 = some (rE, hE) := hf
    unfold kX7_runLength_5 at hf
    show zG p l e { frames := 0, cells := 0, slots := 0, locals := 0 } s m args below meth c (MQ below (zQ D cA base h hE (some (.int rE))) args s 0 0 (zA base)) 3 D cA base h 78 [(0, .ref (base + r0))] [] h_k5
    refine g_aload_n X 0 dX7_runLength_78 rfl ?_
    refine g_get X zf7 hk1 10 (by decide) w_f_RX7_51 rfl rfl dX7_runLength_79 ?_
    refine g_aload_n X 0 dX7_runLength_82 rfl ?_
    refine g_get X zf7 hk1 9 (by decide) w_f_RX7_68 rfl rfl dX7_runLength_83 ?_
    refine g_isub X dX7_runLength_86 ?_
    obtain ⟨rfl, rfl⟩ := zsm hf
    exact g_iret X hr dX7_runLength_87

