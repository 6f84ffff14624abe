/-! FifthCard Layer gapBelow -/
def jX3_gapBelow_23 (g : Zh) (x0 : Int32) (x1 : Int32) (x2 : Int32) (x3 : Int32) (t0 : Int32) (h : Zh) : Option (Nat × Int32 × Zh) :=
  if ((x2 >>> (t0 &&& 31)) &&& ((1 : Int32))) = ((1 : Int32)) then some (1, (x3, h)) else zlet (x3 + (1 : Int32)) fun y1 => some (0, (y1, h))
def bX3_gapBelow_2 (g : Zh) (x0 : Int32) (x1 : Int32) (x2 : Int32) (x3 : Int32) (h : Zh) : Option (Nat × Int32 × Zh) :=
  if x0 ≤ x3 then some (2, (x3, h)) else if x1 < x3 then jX3_gapBelow_23 g x0 x1 x2 x3 ((x1 - x3) + x0) h else jX3_gapBelow_23 g x0 x1 x2 x3 (x1 - x3) h
def kX3_gapBelow_2 (g : Zh)  (e : Nat) (x3 : Int32) (h : Zh) : Option (Int32 × Zh) :=
  if e = 1 then some (x3, h) else some ((0 : Int32), h)
def fX3_gapBelow (x0 : Int32) (x1 : Int32) (x2 : Int32) (h : Zh) : Option (Int32 × Zh) := zlet h fun g =>
  (lp (fun q : Int32 × Zh => bX3_gapBelow_2 g x0 x1 x2 q.1 q.2) zB ((1 : Int32), h)).bind fun q => kX3_gapBelow_2 g q.1 q.2.1 q.2.2
/-! FifthCard Layer tellOf -/
def fX3_tellOf (r0 : Nat) (r1 : Nat) (x2 : Int32) (x3 : Int32) (x4 : Int32) (x5 : Int32) (h : Zh) : Option (Int32 × Zh) := zlet h fun g =>
  if x2 = 0 then some (x3, h) else if x2 = 1 then if zK g r1 = 0 then if ¬ (zI h r1 2) = 0 then some (zrem x3 (zI h r1 2), h) else none else none else if x2 = 2 then if zK g r1 = 0 then zc2 (fX3_gapBelow (zI h r1 0) x3 x4 h) fun v5 h4 => some (v5, h4) else none else if x2 = 3 then zc2 (fX0_lower x4 x3 h) fun v7 h6 => if zK g r1 = 0 then if ¬ (zI h6 r1 3) = 0 then some ((x3 - v7) / (zI h6 r1 3), h6) else none else none else if zK g r1 = 0 then if ¬ (zI h r1 0) = 0 then some (zrem x5 (zI h r1 0), h) else none else none
/-! FifthCard Layer arrange -/
def bX3_arrange_68 (g : Zh) (r0 : Nat) (x7 : Int32) (x10 : Int32) (h : Zh) : Option (Nat × Int32 × Zh) :=
  if x10 ≤ x7 then some (1, (x10, h)) else (zR h r0 1).bind fun r_14 => (zR h r0 1).bind fun r_15 => if zK g r_15 = 100 then if zin (x10 - ((1 : Int32))) (zL g r_15) then if zK g r_14 = 100 then if zin x10 (zL g r_14) then zlet (zsI h r_14 x10.toNatClampNeg (zI h r_15 (x10 - ((1 : Int32))).toNatClampNeg)) fun h20 => zlet (x10 + (-1 : Int32)) fun y21 => some (0, (y21, h20)) else none else none else none else none
def kX3_arrange_68 (g : Zh) (r0 : Nat) (x1 : Int32) (x2 : Int32) (x4 : Int32) (x5 : Int32) (x7 : Int32) (x9 : Int32) (e : Nat) (x10 : Int32) (h : Zh) : Option (Nat × Int32 × Int32 × Zh) :=
  (zR h r0 1).bind fun r_22 => if zK g r_22 = 100 then if zin x7 (zL g r_22) then zlet (zsI h r_22 x7.toNatClampNeg x9) fun h25 => zlet (x5 + (1 : Int32)) fun y26 => some (0, (x4, (y26, h25))) else none else none
def bX3_arrange_6 (g : Zh) (r0 : Nat) (x1 : Int32) (x2 : Int32) (x4 : Int32) (x5 : Int32) (h : Zh) : Option (Nat × Int32 × Int32 × Zh) :=
  if (x2 - ((1 : Int32))) ≤ x5 then some (1, (x4, (x5, h))) else zc2 (fX0_falling ((x2 - ((1 : Int32))) - x5) ((x2 - ((1 : Int32))) - x5) h) fun v2 h1 => zlet (v2.toInt32) fun y3 => zlet (x1 + x5) fun y4 => if ¬ y3 = 0 then zlet (y4 + (x4 / y3)) fun y6 => if ¬ y3 = 0 then zlet (zrem x4 y3) fun y8 => if zK g r0 = 3 then (zR h1 r0 1).bind fun r_10 => if zK g r_10 = 100 then if zin y6 (zL g r_10) then zlet (zI h1 r_10 y6.toNatClampNeg) fun y13 => (lp (fun q : Int32 × Zh => bX3_arrange_68 g r0 y4 q.1 q.2) zB (y6, h1)).bind fun q => kX3_arrange_68 g r0 x1 x2 y8 x5 y4 y13 q.1 q.2.1 q.2.2 else none else none else none else none else none
def kX3_arrange_6 (g : Zh)  (e : Nat) (x4 : Int32) (x5 : Int32) (h : Zh) : Option Zh :=
  some h
def fX3_arrange (r0 : Nat) (x1 : Int32) (x2 : Int32) (x3 : Int32) (h : Zh) : Option Zh := zlet h fun g =>
  (lp (fun q : Int32 × Int32 × Zh => bX3_arrange_6 g r0 x1 x2 q.1 q.2.1 q.2.2) zB (x3, ((0 : Int32), h))).bind fun q => kX3_arrange_6 g q.1 q.2.1 q.2.2.1 q.2.2.2
/-! FifthCard Layer rowTelling -/
def jX3_rowTelling_31 (g : Zh) (r0 : Nat) (r1 : Nat) (x3 : Int32) (h : Zh) : Option (Int32 × Zh) :=
  if zK g r0 = 3 then (zR h r0 1).bind fun r_5 => zc2 (fX0_rowNumber r1 r_5 (zI h r1 5) h) fun v7 h6 => if ¬ (zI h6 r1 12) = 0 then some ((v7 * (zI h6 r1 12)) + (zrem x3 (zI h6 r1 12)), h6) else none else none
def fX3_rowTelling (r0 : Nat) (r1 : Nat) (x2 : Int32) (h : Zh) : Option (Int32 × Zh) := zlet h fun g =>
  if zK g r1 = 0 then zc2 (fX0_anyOrder r1 h) fun v3 h2 => if v3 = 0 then jX3_rowTelling_31 g r0 r1 x2 h2 else if ¬ (zI h2 r1 11) = 0 then if zK g r0 = 3 then (fX3_arrange r0 ((0 : Int32)) (zI h2 r1 5) (zrem x2 (zI h2 r1 11)) h2).bind fun h11 => if ¬ (zI h11 r1 11) = 0 then zlet (x2 / (zI h11 r1 11)) fun y13 => jX3_rowTelling_31 g r0 r1 y13 h11 else none else none else none else none
/-! FifthCard Layer byWords -/
def jX3_byWords_38 (g : Zh) (r0 : Nat) (r1 : Nat) (x2 : Int32) (x3 : Int32) (x4 : Int32) (t0 : Int32) (h : Zh) : Option (Int32 × Zh) :=
  (zR h r0 0).bind fun r_7 => if zK g r_7 = 100 then if zin x4 (zL g r_7) then (zR h r0 0).bind fun r_10 => if zK g r_10 = 100 then if zin t0 (zL g r_10) then zlet (if (zI h r_10 t0.toNatClampNeg) < (zI h r_7 x4.toNatClampNeg) then (zI h r_10 t0.toNatClampNeg) else (zI h r_7 x4.toNatClampNeg)) fun y13 => (zR h r0 0).bind fun r_14 => if zK g r_14 = 100 then if zin x4 (zL g r_14) then (zR h r0 0).bind fun r_17 => if zK g r_17 = 100 then if zin t0 (zL g r_17) then zlet (if (zI h r_14 x4.toNatClampNeg) < (zI h r_17 t0.toNatClampNeg) then (zI h r_17 t0.toNatClampNeg) else (zI h r_14 x4.toNatClampNeg)) fun y20 => zc2 (fX3_showOthers r0 r1 x2 ((((1 : Int32)) <<< (y13 &&& 31)) ||| (((1 : Int32)) <<< (y20 &&& 31))) h) fun v22 h21 => if ¬ ((5 : Int32)) = 0 then zlet (zrem x3 ((5 : Int32))) fun y24 => if (zI h21 r1 4) = ((1 : Int32)) then zc2 (fX3_tellOf r0 r1 y24 y13 v22 y13 h21) fun v34 h33 => zc2 (fX3_rowTelling r0 r1 v34 h33) fun v36 h35 => some (v36, h35) else zlet (y13 + y20) fun y25 => zc2 (fX3_tellOf r0 r1 y24 y13 v22 y25 h21) fun v27 h26 => zc2 (fX3_tellOf r0 r1 y24 y20 v22 y25 h26) fun v29 h28 => zlet ((v27 * (zI h26 r1 0)) + v29) fun y30 => zc2 (fX3_rowTelling r0 r1 y30 h28) fun v32 h31 => some (v32, h31) else none else none else none else none else none else none else none else none else none
def fX3_byWords (r0 : Nat) (r1 : Nat) (x2 : Int32) (x3 : Int32) (h : Zh) : Option (Int32 × Zh) := zlet h fun g =>
  if zK g r0 = 3 then (fX3_sortHand r0 r1 x2 h).bind fun h2 => if ¬ ((5 : Int32)) = 0 then zc2 (fX3_keepPlace r0 r1 (x3 / ((5 : Int32))) h2) fun v5 h4 => if zK g r1 = 0 then if (zI h4 r1 4) = ((2 : Int32)) then if ¬ (zI h4 r1 3) = 0 then jX3_byWords_38 g r0 r1 x2 x3 v5 (zrem (v5 + ((1 : Int32))) (zI h4 r1 3)) h4 else none else jX3_byWords_38 g r0 r1 x2 x3 v5 v5 h4 else none else none else none
/-! FifthCard Layer rowOfTwo -/
def bX3_rowOfTwo_91 (g : Zh) (r0 : Nat) (r1 : Nat) (x2 : Int32) (x3 : Int32) (x8 : Int32) (x9 : Int32) (h : Zh) : Option (Nat × Int32 × Int32 × Zh) :=
  if (zI h r1 3) ≤ x9 then some (1, (x8, (x9, h))) else (zR h r0 0).bind fun r_12 => if zK g r_12 = 100 then if zin x9 (zL g r_12) then if (zI h r_12 x9.toNatClampNeg) = x2 then zlet (x9 + (1 : Int32)) fun y15 => some (0, (x8, (y15, h))) else (zR h r0 0).bind fun r_16 => if zK g r_16 = 100 then if zin x9 (zL g r_16) then if (zI h r_16 x9.toNatClampNeg) = x3 then zlet (x9 + (1 : Int32)) fun y19 => some (0, (x8, (y19, h))) else (zR h r0 1).bind fun r_20 => (zR h r0 0).bind fun r_21 => if zK g r_21 = 100 then if zin x9 (zL g r_21) then if zK g r_20 = 100 then if zin x8 (zL g r_20) then zlet (zsI h r_20 x8.toNatClampNeg (zI h r_21 x9.toNatClampNeg)) fun h26 => zlet (x8 + (1 : Int32)) fun y27 => zlet (x9 + (1 : Int32)) fun y28 => some (0, (y27, (y28, h26))) else none else none else none else none else none else none else none else none
def kX3_rowOfTwo_91 (g : Zh) (r0 : Nat) (r1 : Nat) (x6 : Int32) (x7 : Int32) (e : Nat) (x8 : Int32) (x9 : Int32) (h : Zh) : Option (Int32 × Zh) :=
  (fX3_arrange r0 ((1 : Int32)) x7 x6 h).bind fun h29 => (zR h29 r0 1).bind fun r_30 => zc2 (fX0_rowNumber r1 r_30 (zI h29 r1 5) h29) fun v32 h31 => some (v32 * (zI h31 r1 12), h31)
def jX3_rowOfTwo_84 (g : Zh) (r0 : Nat) (r1 : Nat) (x2 : Int32) (x3 : Int32) (x6 : Int32) (x7 : Int32) (t0 : Int32) (t1 : Int32) (t2 : Nat) (h : Zh) : Option (Int32 × Zh) :=
  if zK g t2 = 100 then if zin t1 (zL g t2) then zlet (zsI h t2 t1.toNatClampNeg t0) fun h11 => (lp (fun q : Int32 × Int32 × Zh => bX3_rowOfTwo_91 g r0 r1 x2 x3 q.1 q.2.1 q.2.2) zB ((1 : Int32), ((0 : Int32), h11))).bind fun q => kX3_rowOfTwo_91 g r0 r1 x6 x7 q.1 q.2.1 q.2.2.1 q.2.2.2 else none else none
def jX3_rowOfTwo_40 (g : Zh) (r0 : Nat) (r1 : Nat) (x2 : Int32) (x3 : Int32) (x5 : Int32) (t0 : Int32) (h : Zh) : Option (Int32 × Zh) :=
  zlet (t0 - ((1 : Int32))) fun y3 => zlet ((zI h r1 5) - ((1 : Int32))) fun y4 => zc2 (fX0_falling y4 y4 h) fun v6 h5 => if (lg_cmp y3.toInt64 v6) < 0 then if zK g r0 = 3 then (zR h5 r0 1).bind fun r_8 => if x5 = 0 then jX3_rowOfTwo_84 g r0 r1 x2 x3 y3 y4 x3 ((0 : Int32)) r_8 h5 else jX3_rowOfTwo_84 g r0 r1 x2 x3 y3 y4 x2 ((0 : Int32)) r_8 h5 else none else some ((-2 : Int32), h5)
def jX3_rowOfTwo_21 (g : Zh) (r0 : Nat) (r1 : Nat) (x2 : Int32) (x3 : Int32) (x4 : Int32) (t0 : Int32) (h : Zh) : Option (Int32 × Zh) :=
  if t0 = 0 then jX3_rowOfTwo_40 g r0 r1 x2 x3 t0 ((zI h r1 2) - x4) h else jX3_rowOfTwo_40 g r0 r1 x2 x3 t0 x4 h
def fX3_rowOfTwo (r0 : Nat) (r1 : Nat) (x2 : Int32) (x3 : Int32) (h : Zh) : Option (Int32 × Zh) := zlet h fun g =>
  zlet (x3 - x2) fun y1 => if zK g r1 = 0 then if (zI h r1 2) < (((2 : Int32)) * y1) then jX3_rowOfTwo_21 g r0 r1 x2 x3 y1 ((0 : Int32)) h else jX3_rowOfTwo_21 g r0 r1 x2 x3 y1 ((1 : Int32)) h else none
/-! FifthCard Layer bySuit -/
def bX3_bySuit_39 (g : Zh) (r0 : Nat) (r1 : Nat) (x3 : Int32) (x4 : Int32) (h : Zh) : Option (Nat × Int32 × Zh) :=
  if (zI h r1 3) ≤ x4 then some (2, (x4, h)) else (zR h r0 0).bind fun r_7 => if zK g r_7 = 100 then if zin x3 (zL g r_7) then if ¬ (zI h r1 2) = 0 then (zR h r0 0).bind fun r_11 => if zK g r_11 = 100 then if zin x4 (zL g r_11) then if ¬ (zI h r1 2) = 0 then if ((zI h r_7 x3.toNatClampNeg) / (zI h r1 2)) = ((zI h r_11 x4.toNatClampNeg) / (zI h r1 2)) then some (1, (x4, h)) else zlet (x4 + (1 : Int32)) fun y15 => some (0, (y15, h)) else none else none else none else none else none else none
def kX3_bySuit_39 (g : Zh) (r0 : Nat) (r1 : Nat) (x3 : Int32) (e : Nat) (x4 : Int32) (h : Zh) : Option (Nat × Int32 × Int32 × Zh) :=
  if e = 1 then some (1, (x3, (x4, h))) else zlet (x3 + (1 : Int32)) fun y16 => some (0, (y16, (0, h)))
def bX3_bySuit_26 (g : Zh) (r0 : Nat) (r1 : Nat) (x3 : Int32) (x4 : Int32) (h : Zh) : Option (Nat × Int32 × Int32 × Zh) :=
  if (zI h r1 3) ≤ x3 then some (2, (x3, (0, h))) else zlet (x3 + ((1 : Int32))) fun y6 => (lp (fun q : Int32 × Zh => bX3_bySuit_39 g r0 r1 x3 q.1 q.2) zB (y6, h)).bind fun q => kX3_bySuit_39 g r0 r1 x3 q.1 q.2.1 q.2.2
def kX3_bySuit_26 (g : Zh) (r0 : Nat) (r1 : Nat) (e : Nat) (x3 : Int32) (x4 : Int32) (h : Zh) : Option (Int32 × Zh) :=
  if e = 1 then (zR h r0 0).bind fun r_17 => if zK g r_17 = 100 then if zin x3 (zL g r_17) then (zR h r0 0).bind fun r_20 => if zK g r_20 = 100 then if zin x4 (zL g r_20) then zc2 (fX3_rowOfTwo r0 r1 (zI h r_17 x3.toNatClampNeg) (zI h r_20 x4.toNatClampNeg) h) fun v24 h23 => some (v24, h23) else none else none else none else none else some ((-2 : Int32), h)
def fX3_bySuit (r0 : Nat) (r1 : Nat) (x2 : Int32) (h : Zh) : Option (Int32 × Zh) := zlet h fun g =>
  if zK g r1 = 0 then zc2 (fX0_anyOrder r1 h) fun v3 h2 => if v3 = 0 then some ((-2 : Int32), h2) else if (zI h2 r1 4) = ((1 : Int32)) then if zK g r0 = 3 then (fX3_sortHand r0 r1 x2 h2).bind fun h5 => (lp (fun q : Int32 × Int32 × Zh => bX3_bySuit_26 g r0 r1 q.1 q.2.1 q.2.2) zB ((0 : Int32), (0, h5))).bind fun q => kX3_bySuit_26 g r0 r1 q.1 q.2.1 q.2.2.1 q.2.2.2 else none else some ((-2 : Int32), h2) else none
theorem dX3_gapBelow_0 : decode cX3_gapBelow 0 = .ok (.iconst 1, 1) := by decide +kernel
theorem dX3_gapBelow_1 : decode cX3_gapBelow 1 = .ok (.istore_n 3, 1) := by decide +kernel
theorem dX3_gapBelow_2 : decode cX3_gapBelow 2 = .ok (.iload_n 3, 1) := by decide +kernel
theorem dX3_gapBelow_3 : decode cX3_gapBelow 3 = .ok (.iload_n 0, 1) := by decide +kernel
theorem dX3_gapBelow_4 : decode cX3_gapBelow 4 = .ok (.if_icmp .ge 39, 3) := by decide +kernel
theorem dX3_gapBelow_7 : decode cX3_gapBelow 7 = .ok (.iload_n 1, 1) := by decide +kernel
theorem dX3_gapBelow_8 : decode cX3_gapBelow 8 = .ok (.iload_n 3, 1) := by decide +kernel
theorem dX3_gapBelow_9 : decode cX3_gapBelow 9 = .ok (.if_icmp .lt 9, 3) := by decide +kernel
theorem dX3_gapBelow_12 : decode cX3_gapBelow 12 = .ok (.iload_n 1, 1) := by decide +kernel
theorem dX3_gapBelow_13 : decode cX3_gapBelow 13 = .ok (.iload_n 3, 1) := by decide +kernel
theorem dX3_gapBelow_14 : decode cX3_gapBelow 14 = .ok (.isub, 1) := by decide +kernel
theorem dX3_gapBelow_15 : decode cX3_gapBelow 15 = .ok (.goto 8, 3) := by decide +kernel
theorem dX3_gapBelow_18 : decode cX3_gapBelow 18 = .ok (.iload_n 1, 1) := by decide +kernel
theorem dX3_gapBelow_19 : decode cX3_gapBelow 19 = .ok (.iload_n 3, 1) := by decide +kernel
theorem dX3_gapBelow_20 : decode cX3_gapBelow 20 = .ok (.isub, 1) := by decide +kernel
theorem dX3_gapBelow_21 : decode cX3_gapBelow 21 = .ok (.iload_n 0, 1) := by decide +kernel
theorem dX3_gapBelow_22 : decode cX3_gapBelow 22 = .ok (.iadd, 1) := by decide +kernel
theorem dX3_gapBelow_23 : decode cX3_gapBelow 23 = .ok (.istore 4, 2) := by decide +kernel
theorem dX3_gapBelow_25 : decode cX3_gapBelow 25 = .ok (.iload_n 2, 1) := by decide +kernel
theorem dX3_gapBelow_26 : decode cX3_gapBelow 26 = .ok (.iload 4, 2) := by decide +kernel
theorem dX3_gapBelow_28 : decode cX3_gapBelow 28 = .ok (.ishr, 1) := by decide +kernel
theorem dX3_gapBelow_29 : decode cX3_gapBelow 29 = .ok (.iconst 1, 1) := by decide +kernel
theorem dX3_gapBelow_30 : decode cX3_gapBelow 30 = .ok (.iand, 1) := by decide +kernel
theorem dX3_gapBelow_31 : decode cX3_gapBelow 31 = .ok (.iconst 1, 1) := by decide +kernel
theorem dX3_gapBelow_32 : decode cX3_gapBelow 32 = .ok (.if_icmp .ne 5, 3) := by decide +kernel
theorem dX3_gapBelow_35 : decode cX3_gapBelow 35 = .ok (.iload_n 3, 1) := by decide +kernel
theorem dX3_gapBelow_36 : decode cX3_gapBelow 36 = .ok (.ireturn, 1) := by decide +kernel
theorem dX3_gapBelow_37 : decode cX3_gapBelow 37 = .ok (.iinc 3 1, 3) := by decide +kernel
theorem dX3_gapBelow_40 : decode cX3_gapBelow 40 = .ok (.goto (-38), 3) := by decide +kernel
theorem dX3_gapBelow_43 : decode cX3_gapBelow 43 = .ok (.iconst 0, 1) := by decide +kernel
theorem dX3_gapBelow_44 : decode cX3_gapBelow 44 = .ok (.ireturn, 1) := by decide +kernel
theorem dX3_tellOf_0 : decode cX3_tellOf 0 = .ok (.iload_n 2, 1) := by decide +kernel
theorem dX3_tellOf_1 : decode cX3_tellOf 1 = .ok (.tableswitch 65 0 3 #[31, 33, 40, 51], 31) := by decide +kernel
theorem dX3_tellOf_32 : decode cX3_tellOf 32 = .ok (.iload_n 3, 1) := by decide +kernel
theorem dX3_tellOf_33 : decode cX3_tellOf 33 = .ok (.ireturn, 1) := by decide +kernel
theorem dX3_tellOf_34 : decode cX3_tellOf 34 = .ok (.iload_n 3, 1) := by decide +kernel
theorem dX3_tellOf_35 : decode cX3_tellOf 35 = .ok (.aload_n 1, 1) := by decide +kernel
theorem dX3_tellOf_36 : decode cX3_tellOf 36 = .ok (.getfield 69, 3) := by decide +kernel
theorem dX3_tellOf_39 : decode cX3_tellOf 39 = .ok (.irem, 1) := by decide +kernel
theorem dX3_tellOf_40 : decode cX3_tellOf 40 = .ok (.ireturn, 1) := by decide +kernel
theorem dX3_tellOf_41 : decode cX3_tellOf 41 = .ok (.aload_n 1, 1) := by decide +kernel
theorem dX3_tellOf_42 : decode cX3_tellOf 42 = .ok (.getfield 55, 3) := by decide +kernel
theorem dX3_tellOf_45 : decode cX3_tellOf 45 = .ok (.iload_n 3, 1) := by decide +kernel
theorem dX3_tellOf_46 : decode cX3_tellOf 46 = .ok (.iload 4, 2) := by decide +kernel
theorem dX3_tellOf_48 : decode cX3_tellOf 48 = .ok (.invokestatic 72, 3) := by decide +kernel
theorem dX3_tellOf_51 : decode cX3_tellOf 51 = .ok (.ireturn, 1) := by decide +kernel
theorem dX3_tellOf_52 : decode cX3_tellOf 52 = .ok (.iload_n 3, 1) := by decide +kernel
theorem dX3_tellOf_53 : decode cX3_tellOf 53 = .ok (.iload 4, 2) := by decide +kernel
theorem dX3_tellOf_55 : decode cX3_tellOf 55 = .ok (.iload_n 3, 1) := by decide +kernel
theorem dX3_tellOf_56 : decode cX3_tellOf 56 = .ok (.invokestatic 76, 3) := by decide +kernel
theorem dX3_tellOf_59 : decode cX3_tellOf 59 = .ok (.isub, 1) := by decide +kernel
theorem dX3_tellOf_60 : decode cX3_tellOf 60 = .ok (.aload_n 1, 1) := by decide +kernel
theorem dX3_tellOf_61 : decode cX3_tellOf 61 = .ok (.getfield 32, 3) := by decide +kernel
theorem dX3_tellOf_64 : decode cX3_tellOf 64 = .ok (.idiv, 1) := by decide +kernel
theorem dX3_tellOf_65 : decode cX3_tellOf 65 = .ok (.ireturn, 1) := by decide +kernel
theorem dX3_tellOf_66 : decode cX3_tellOf 66 = .ok (.iload 5, 2) := by decide +kernel
theorem dX3_tellOf_68 : decode cX3_tellOf 68 = .ok (.aload_n 1, 1) := by decide +kernel
theorem dX3_tellOf_69 : decode cX3_tellOf 69 = .ok (.getfield 55, 3) := by decide +kernel
theorem dX3_tellOf_72 : decode cX3_tellOf 72 = .ok (.irem, 1) := by decide +kernel
theorem dX3_tellOf_73 : decode cX3_tellOf 73 = .ok (.ireturn, 1) := by decide +kernel
theorem dX3_arrange_0 : decode cX3_arrange 0 = .ok (.iload_n 3, 1) := by decide +kernel
theorem dX3_arrange_1 : decode cX3_arrange 1 = .ok (.istore 4, 2) := by decide +kernel
theorem dX3_arrange_3 : decode cX3_arrange 3 = .ok (.iconst 0, 1) := by decide +kernel
theorem dX3_arrange_4 : decode cX3_arrange 4 = .ok (.istore 5, 2) := by decide +kernel
theorem dX3_arrange_6 : decode cX3_arrange 6 = .ok (.iload 5, 2) := by decide +kernel
theorem dX3_arrange_8 : decode cX3_arrange 8 = .ok (.iload_n 2, 1) := by decide +kernel
theorem dX3_arrange_9 : decode cX3_arrange 9 = .ok (.iconst 1, 1) := by decide +kernel
theorem dX3_arrange_10 : decode cX3_arrange 10 = .ok (.isub, 1) := by decide +kernel
theorem dX3_arrange_11 : decode cX3_arrange 11 = .ok (.if_icmp .ge 101, 3) := by decide +kernel
theorem dX3_arrange_14 : decode cX3_arrange 14 = .ok (.iload_n 2, 1) := by decide +kernel
theorem dX3_arrange_15 : decode cX3_arrange 15 = .ok (.iconst 1, 1) := by decide +kernel
theorem dX3_arrange_16 : decode cX3_arrange 16 = .ok (.isub, 1) := by decide +kernel
theorem dX3_arrange_17 : decode cX3_arrange 17 = .ok (.iload 5, 2) := by decide +kernel
theorem dX3_arrange_19 : decode cX3_arrange 19 = .ok (.isub, 1) := by decide +kernel
theorem dX3_arrange_20 : decode cX3_arrange 20 = .ok (.iload_n 2, 1) := by decide +kernel
theorem dX3_arrange_21 : decode cX3_arrange 21 = .ok (.iconst 1, 1) := by decide +kernel
theorem dX3_arrange_22 : decode cX3_arrange 22 = .ok (.isub, 1) := by decide +kernel
theorem dX3_arrange_23 : decode cX3_arrange 23 = .ok (.iload 5, 2) := by decide +kernel
theorem dX3_arrange_25 : decode cX3_arrange 25 = .ok (.isub, 1) := by decide +kernel
theorem dX3_arrange_26 : decode cX3_arrange 26 = .ok (.invokestatic 100, 3) := by decide +kernel
theorem dX3_arrange_29 : decode cX3_arrange 29 = .ok (.l2i, 1) := by decide +kernel
theorem dX3_arrange_30 : decode cX3_arrange 30 = .ok (.istore 6, 2) := by decide +kernel
theorem dX3_arrange_32 : decode cX3_arrange 32 = .ok (.iload_n 1, 1) := by decide +kernel
theorem dX3_arrange_33 : decode cX3_arrange 33 = .ok (.iload 5, 2) := by decide +kernel
theorem dX3_arrange_35 : decode cX3_arrange 35 = .ok (.iadd, 1) := by decide +kernel
theorem dX3_arrange_36 : decode cX3_arrange 36 = .ok (.istore 7, 2) := by decide +kernel
theorem dX3_arrange_38 : decode cX3_arrange 38 = .ok (.iload 7, 2) := by decide +kernel
theorem dX3_arrange_40 : decode cX3_arrange 40 = .ok (.iload 4, 2) := by decide +kernel
theorem dX3_arrange_42 : decode cX3_arrange 42 = .ok (.iload 6, 2) := by decide +kernel
theorem dX3_arrange_44 : decode cX3_arrange 44 = .ok (.idiv, 1) := by decide +kernel
theorem dX3_arrange_45 : decode cX3_arrange 45 = .ok (.iadd, 1) := by decide +kernel
theorem dX3_arrange_46 : decode cX3_arrange 46 = .ok (.istore 8, 2) := by decide +kernel
theorem dX3_arrange_48 : decode cX3_arrange 48 = .ok (.iload 4, 2) := by decide +kernel
theorem dX3_arrange_50 : decode cX3_arrange 50 = .ok (.iload 6, 2) := by decide +kernel
theorem dX3_arrange_52 : decode cX3_arrange 52 = .ok (.irem, 1) := by decide +kernel
theorem dX3_arrange_53 : decode cX3_arrange 53 = .ok (.istore 4, 2) := by decide +kernel
theorem dX3_arrange_55 : decode cX3_arrange 55 = .ok (.aload_n 0, 1) := by decide +kernel
theorem dX3_arrange_56 : decode cX3_arrange 56 = .ok (.getfield 15, 3) := by decide +kernel
theorem dX3_arrange_59 : decode cX3_arrange 59 = .ok (.iload 8, 2) := by decide +kernel
theorem dX3_arrange_61 : decode cX3_arrange 61 = .ok (.iaload, 1) := by decide +kernel
theorem dX3_arrange_62 : decode cX3_arrange 62 = .ok (.istore 9, 2) := by decide +kernel
theorem dX3_arrange_64 : decode cX3_arrange 64 = .ok (.iload 8, 2) := by decide +kernel
theorem dX3_arrange_66 : decode cX3_arrange 66 = .ok (.istore 10, 2) := by decide +kernel
theorem dX3_arrange_68 : decode cX3_arrange 68 = .ok (.iload 10, 2) := by decide +kernel
theorem dX3_arrange_70 : decode cX3_arrange 70 = .ok (.iload 7, 2) := by decide +kernel
theorem dX3_arrange_72 : decode cX3_arrange 72 = .ok (.if_icmp .le 25, 3) := by decide +kernel
theorem dX3_arrange_75 : decode cX3_arrange 75 = .ok (.aload_n 0, 1) := by decide +kernel
theorem dX3_arrange_76 : decode cX3_arrange 76 = .ok (.getfield 15, 3) := by decide +kernel
theorem dX3_arrange_79 : decode cX3_arrange 79 = .ok (.iload 10, 2) := by decide +kernel
theorem dX3_arrange_81 : decode cX3_arrange 81 = .ok (.aload_n 0, 1) := by decide +kernel
theorem dX3_arrange_82 : decode cX3_arrange 82 = .ok (.getfield 15, 3) := by decide +kernel
theorem dX3_arrange_85 : decode cX3_arrange 85 = .ok (.iload 10, 2) := by decide +kernel
theorem dX3_arrange_87 : decode cX3_arrange 87 = .ok (.iconst 1, 1) := by decide +kernel
theorem dX3_arrange_88 : decode cX3_arrange 88 = .ok (.isub, 1) := by decide +kernel
theorem dX3_arrange_89 : decode cX3_arrange 89 = .ok (.iaload, 1) := by decide +kernel
theorem dX3_arrange_90 : decode cX3_arrange 90 = .ok (.iastore, 1) := by decide +kernel
theorem dX3_arrange_91 : decode cX3_arrange 91 = .ok (.iinc 10 (-1), 3) := by decide +kernel
theorem dX3_arrange_94 : decode cX3_arrange 94 = .ok (.goto (-26), 3) := by decide +kernel
theorem dX3_arrange_97 : decode cX3_arrange 97 = .ok (.aload_n 0, 1) := by decide +kernel
theorem dX3_arrange_98 : decode cX3_arrange 98 = .ok (.getfield 15, 3) := by decide +kernel
theorem dX3_arrange_101 : decode cX3_arrange 101 = .ok (.iload 7, 2) := by decide +kernel
theorem dX3_arrange_103 : decode cX3_arrange 103 = .ok (.iload 9, 2) := by decide +kernel
theorem dX3_arrange_105 : decode cX3_arrange 105 = .ok (.iastore, 1) := by decide +kernel
theorem dX3_arrange_106 : decode cX3_arrange 106 = .ok (.iinc 5 1, 3) := by decide +kernel
theorem dX3_arrange_109 : decode cX3_arrange 109 = .ok (.goto (-103), 3) := by decide +kernel
theorem dX3_arrange_112 : decode cX3_arrange 112 = .ok (.return_, 1) := by decide +kernel
theorem dX3_rowTelling_0 : decode cX3_rowTelling 0 = .ok (.iload_n 2, 1) := by decide +kernel
theorem dX3_rowTelling_1 : decode cX3_rowTelling 1 = .ok (.istore_n 3, 1) := by decide +kernel
theorem dX3_rowTelling_2 : decode cX3_rowTelling 2 = .ok (.aload_n 1, 1) := by decide +kernel
theorem dX3_rowTelling_3 : decode cX3_rowTelling 3 = .ok (.invokevirtual 79, 3) := by decide +kernel
theorem dX3_rowTelling_6 : decode cX3_rowTelling 6 = .ok (.ifCond .eq 25, 3) := by decide +kernel
theorem dX3_rowTelling_9 : decode cX3_rowTelling 9 = .ok (.aload_n 0, 1) := by decide +kernel
theorem dX3_rowTelling_10 : decode cX3_rowTelling 10 = .ok (.iconst 0, 1) := by decide +kernel
theorem dX3_rowTelling_11 : decode cX3_rowTelling 11 = .ok (.aload_n 1, 1) := by decide +kernel
theorem dX3_rowTelling_12 : decode cX3_rowTelling 12 = .ok (.getfield 83, 3) := by decide +kernel
theorem dX3_rowTelling_15 : decode cX3_rowTelling 15 = .ok (.iload_n 2, 1) := by decide +kernel
theorem dX3_rowTelling_16 : decode cX3_rowTelling 16 = .ok (.aload_n 1, 1) := by decide +kernel
theorem dX3_rowTelling_17 : decode cX3_rowTelling 17 = .ok (.getfield 86, 3) := by decide +kernel
theorem dX3_rowTelling_20 : decode cX3_rowTelling 20 = .ok (.irem, 1) := by decide +kernel
theorem dX3_rowTelling_21 : decode cX3_rowTelling 21 = .ok (.invokevirtual 89, 3) := by decide +kernel
theorem dX3_rowTelling_24 : decode cX3_rowTelling 24 = .ok (.iload_n 2, 1) := by decide +kernel
theorem dX3_rowTelling_25 : decode cX3_rowTelling 25 = .ok (.aload_n 1, 1) := by decide +kernel
theorem dX3_rowTelling_26 : decode cX3_rowTelling 26 = .ok (.getfield 86, 3) := by decide +kernel
theorem dX3_rowTelling_29 : decode cX3_rowTelling 29 = .ok (.idiv, 1) := by decide +kernel
theorem dX3_rowTelling_30 : decode cX3_rowTelling 30 = .ok (.istore_n 3, 1) := by decide +kernel
theorem dX3_rowTelling_31 : decode cX3_rowTelling 31 = .ok (.aload_n 1, 1) := by decide +kernel
theorem dX3_rowTelling_32 : decode cX3_rowTelling 32 = .ok (.aload_n 0, 1) := by decide +kernel
theorem dX3_rowTelling_33 : decode cX3_rowTelling 33 = .ok (.getfield 15, 3) := by decide +kernel
theorem dX3_rowTelling_36 : decode cX3_rowTelling 36 = .ok (.aload_n 1, 1) := by decide +kernel
theorem dX3_rowTelling_37 : decode cX3_rowTelling 37 = .ok (.getfield 83, 3) := by decide +kernel
theorem dX3_rowTelling_40 : decode cX3_rowTelling 40 = .ok (.invokevirtual 93, 3) := by decide +kernel
theorem dX3_rowTelling_43 : decode cX3_rowTelling 43 = .ok (.aload_n 1, 1) := by decide +kernel
theorem dX3_rowTelling_44 : decode cX3_rowTelling 44 = .ok (.getfield 97, 3) := by decide +kernel
theorem dX3_rowTelling_47 : decode cX3_rowTelling 47 = .ok (.imul, 1) := by decide +kernel
theorem dX3_rowTelling_48 : decode cX3_rowTelling 48 = .ok (.iload_n 3, 1) := by decide +kernel
theorem dX3_rowTelling_49 : decode cX3_rowTelling 49 = .ok (.aload_n 1, 1) := by decide +kernel
theorem dX3_rowTelling_50 : decode cX3_rowTelling 50 = .ok (.getfield 97, 3) := by decide +kernel
theorem dX3_rowTelling_53 : decode cX3_rowTelling 53 = .ok (.irem, 1) := by decide +kernel
theorem dX3_rowTelling_54 : decode cX3_rowTelling 54 = .ok (.iadd, 1) := by decide +kernel
theorem dX3_rowTelling_55 : decode cX3_rowTelling 55 = .ok (.ireturn, 1) := by decide +kernel
theorem dX3_byWords_0 : decode cX3_byWords 0 = .ok (.aload_n 0, 1) := by decide +kernel
theorem dX3_byWords_1 : decode cX3_byWords 1 = .ok (.aload_n 1, 1) := by decide +kernel
theorem dX3_byWords_2 : decode cX3_byWords 2 = .ok (.iload_n 2, 1) := by decide +kernel
theorem dX3_byWords_3 : decode cX3_byWords 3 = .ok (.invokevirtual 18, 3) := by decide +kernel
theorem dX3_byWords_6 : decode cX3_byWords 6 = .ok (.aload_n 0, 1) := by decide +kernel
theorem dX3_byWords_7 : decode cX3_byWords 7 = .ok (.aload_n 1, 1) := by decide +kernel
theorem dX3_byWords_8 : decode cX3_byWords 8 = .ok (.iload_n 3, 1) := by decide +kernel
theorem dX3_byWords_9 : decode cX3_byWords 9 = .ok (.iconst 5, 1) := by decide +kernel
theorem dX3_byWords_10 : decode cX3_byWords 10 = .ok (.idiv, 1) := by decide +kernel
theorem dX3_byWords_11 : decode cX3_byWords 11 = .ok (.invokevirtual 22, 3) := by decide +kernel
theorem dX3_byWords_14 : decode cX3_byWords 14 = .ok (.istore 4, 2) := by decide +kernel
theorem dX3_byWords_16 : decode cX3_byWords 16 = .ok (.aload_n 1, 1) := by decide +kernel
theorem dX3_byWords_17 : decode cX3_byWords 17 = .ok (.getfield 26, 3) := by decide +kernel
theorem dX3_byWords_20 : decode cX3_byWords 20 = .ok (.iconst 2, 1) := by decide +kernel
theorem dX3_byWords_21 : decode cX3_byWords 21 = .ok (.if_icmp .ne 15, 3) := by decide +kernel
theorem dX3_byWords_24 : decode cX3_byWords 24 = .ok (.iload 4, 2) := by decide +kernel
theorem dX3_byWords_26 : decode cX3_byWords 26 = .ok (.iconst 1, 1) := by decide +kernel
theorem dX3_byWords_27 : decode cX3_byWords 27 = .ok (.iadd, 1) := by decide +kernel
theorem dX3_byWords_28 : decode cX3_byWords 28 = .ok (.aload_n 1, 1) := by decide +kernel
theorem dX3_byWords_29 : decode cX3_byWords 29 = .ok (.getfield 32, 3) := by decide +kernel
theorem dX3_byWords_32 : decode cX3_byWords 32 = .ok (.irem, 1) := by decide +kernel
theorem dX3_byWords_33 : decode cX3_byWords 33 = .ok (.goto 5, 3) := by decide +kernel
theorem dX3_byWords_36 : decode cX3_byWords 36 = .ok (.iload 4, 2) := by decide +kernel
theorem dX3_byWords_38 : decode cX3_byWords 38 = .ok (.istore 5, 2) := by decide +kernel
theorem dX3_byWords_40 : decode cX3_byWords 40 = .ok (.aload_n 0, 1) := by decide +kernel
theorem dX3_byWords_41 : decode cX3_byWords 41 = .ok (.getfield 9, 3) := by decide +kernel
theorem dX3_byWords_44 : decode cX3_byWords 44 = .ok (.iload 4, 2) := by decide +kernel
theorem dX3_byWords_46 : decode cX3_byWords 46 = .ok (.iaload, 1) := by decide +kernel
theorem dX3_byWords_47 : decode cX3_byWords 47 = .ok (.aload_n 0, 1) := by decide +kernel
theorem dX3_byWords_48 : decode cX3_byWords 48 = .ok (.getfield 9, 3) := by decide +kernel
theorem dX3_byWords_51 : decode cX3_byWords 51 = .ok (.iload 5, 2) := by decide +kernel
theorem dX3_byWords_53 : decode cX3_byWords 53 = .ok (.iaload, 1) := by decide +kernel
theorem dX3_byWords_54 : decode cX3_byWords 54 = .ok (.invokestatic 35, 3) := by decide +kernel
theorem dX3_byWords_57 : decode cX3_byWords 57 = .ok (.istore 6, 2) := by decide +kernel
theorem dX3_byWords_59 : decode cX3_byWords 59 = .ok (.aload_n 0, 1) := by decide +kernel
theorem dX3_byWords_60 : decode cX3_byWords 60 = .ok (.getfield 9, 3) := by decide +kernel
theorem dX3_byWords_63 : decode cX3_byWords 63 = .ok (.iload 4, 2) := by decide +kernel
theorem dX3_byWords_65 : decode cX3_byWords 65 = .ok (.iaload, 1) := by decide +kernel
theorem dX3_byWords_66 : decode cX3_byWords 66 = .ok (.aload_n 0, 1) := by decide +kernel
theorem dX3_byWords_67 : decode cX3_byWords 67 = .ok (.getfield 9, 3) := by decide +kernel
theorem dX3_byWords_70 : decode cX3_byWords 70 = .ok (.iload 5, 2) := by decide +kernel
theorem dX3_byWords_72 : decode cX3_byWords 72 = .ok (.iaload, 1) := by decide +kernel
theorem dX3_byWords_73 : decode cX3_byWords 73 = .ok (.invokestatic 41, 3) := by decide +kernel
theorem dX3_byWords_76 : decode cX3_byWords 76 = .ok (.istore 7, 2) := by decide +kernel
theorem dX3_byWords_78 : decode cX3_byWords 78 = .ok (.aload_n 0, 1) := by decide +kernel
theorem dX3_byWords_79 : decode cX3_byWords 79 = .ok (.aload_n 1, 1) := by decide +kernel
theorem dX3_byWords_80 : decode cX3_byWords 80 = .ok (.iload_n 2, 1) := by decide +kernel
theorem dX3_byWords_81 : decode cX3_byWords 81 = .ok (.iconst 1, 1) := by decide +kernel
theorem dX3_byWords_82 : decode cX3_byWords 82 = .ok (.iload 6, 2) := by decide +kernel
theorem dX3_byWords_84 : decode cX3_byWords 84 = .ok (.ishl, 1) := by decide +kernel
theorem dX3_byWords_85 : decode cX3_byWords 85 = .ok (.iconst 1, 1) := by decide +kernel
theorem dX3_byWords_86 : decode cX3_byWords 86 = .ok (.iload 7, 2) := by decide +kernel
theorem dX3_byWords_88 : decode cX3_byWords 88 = .ok (.ishl, 1) := by decide +kernel
theorem dX3_byWords_89 : decode cX3_byWords 89 = .ok (.ior, 1) := by decide +kernel
theorem dX3_byWords_90 : decode cX3_byWords 90 = .ok (.invokevirtual 44, 3) := by decide +kernel
theorem dX3_byWords_93 : decode cX3_byWords 93 = .ok (.istore 8, 2) := by decide +kernel
theorem dX3_byWords_95 : decode cX3_byWords 95 = .ok (.iload_n 3, 1) := by decide +kernel
theorem dX3_byWords_96 : decode cX3_byWords 96 = .ok (.iconst 5, 1) := by decide +kernel
theorem dX3_byWords_97 : decode cX3_byWords 97 = .ok (.irem, 1) := by decide +kernel
theorem dX3_byWords_98 : decode cX3_byWords 98 = .ok (.istore 9, 2) := by decide +kernel
theorem dX3_byWords_100 : decode cX3_byWords 100 = .ok (.aload_n 1, 1) := by decide +kernel
theorem dX3_byWords_101 : decode cX3_byWords 101 = .ok (.getfield 26, 3) := by decide +kernel
theorem dX3_byWords_104 : decode cX3_byWords 104 = .ok (.iconst 1, 1) := by decide +kernel
theorem dX3_byWords_105 : decode cX3_byWords 105 = .ok (.if_icmp .ne 22, 3) := by decide +kernel
theorem dX3_byWords_108 : decode cX3_byWords 108 = .ok (.aload_n 0, 1) := by decide +kernel
theorem dX3_byWords_109 : decode cX3_byWords 109 = .ok (.aload_n 1, 1) := by decide +kernel
theorem dX3_byWords_110 : decode cX3_byWords 110 = .ok (.aload_n 0, 1) := by decide +kernel
theorem dX3_byWords_111 : decode cX3_byWords 111 = .ok (.aload_n 1, 1) := by decide +kernel
theorem dX3_byWords_112 : decode cX3_byWords 112 = .ok (.iload 9, 2) := by decide +kernel
theorem dX3_byWords_114 : decode cX3_byWords 114 = .ok (.iload 6, 2) := by decide +kernel
theorem dX3_byWords_116 : decode cX3_byWords 116 = .ok (.iload 8, 2) := by decide +kernel
theorem dX3_byWords_118 : decode cX3_byWords 118 = .ok (.iload 6, 2) := by decide +kernel
theorem dX3_byWords_120 : decode cX3_byWords 120 = .ok (.invokevirtual 48, 3) := by decide +kernel
theorem dX3_byWords_123 : decode cX3_byWords 123 = .ok (.invokevirtual 52, 3) := by decide +kernel
theorem dX3_byWords_126 : decode cX3_byWords 126 = .ok (.ireturn, 1) := by decide +kernel
theorem dX3_byWords_127 : decode cX3_byWords 127 = .ok (.iload 6, 2) := by decide +kernel
theorem dX3_byWords_129 : decode cX3_byWords 129 = .ok (.iload 7, 2) := by decide +kernel
theorem dX3_byWords_131 : decode cX3_byWords 131 = .ok (.iadd, 1) := by decide +kernel
theorem dX3_byWords_132 : decode cX3_byWords 132 = .ok (.istore 10, 2) := by decide +kernel
theorem dX3_byWords_134 : decode cX3_byWords 134 = .ok (.aload_n 0, 1) := by decide +kernel
theorem dX3_byWords_135 : decode cX3_byWords 135 = .ok (.aload_n 1, 1) := by decide +kernel
theorem dX3_byWords_136 : decode cX3_byWords 136 = .ok (.iload 9, 2) := by decide +kernel
theorem dX3_byWords_138 : decode cX3_byWords 138 = .ok (.iload 6, 2) := by decide +kernel
theorem dX3_byWords_140 : decode cX3_byWords 140 = .ok (.iload 8, 2) := by decide +kernel
theorem dX3_byWords_142 : decode cX3_byWords 142 = .ok (.iload 10, 2) := by decide +kernel
theorem dX3_byWords_144 : decode cX3_byWords 144 = .ok (.invokevirtual 48, 3) := by decide +kernel
theorem dX3_byWords_147 : decode cX3_byWords 147 = .ok (.aload_n 1, 1) := by decide +kernel
theorem dX3_byWords_148 : decode cX3_byWords 148 = .ok (.getfield 55, 3) := by decide +kernel
theorem dX3_byWords_151 : decode cX3_byWords 151 = .ok (.imul, 1) := by decide +kernel
theorem dX3_byWords_152 : decode cX3_byWords 152 = .ok (.aload_n 0, 1) := by decide +kernel
theorem dX3_byWords_153 : decode cX3_byWords 153 = .ok (.aload_n 1, 1) := by decide +kernel
theorem dX3_byWords_154 : decode cX3_byWords 154 = .ok (.iload 9, 2) := by decide +kernel
theorem dX3_byWords_156 : decode cX3_byWords 156 = .ok (.iload 7, 2) := by decide +kernel
theorem dX3_byWords_158 : decode cX3_byWords 158 = .ok (.iload 8, 2) := by decide +kernel
theorem dX3_byWords_160 : decode cX3_byWords 160 = .ok (.iload 10, 2) := by decide +kernel
theorem dX3_byWords_162 : decode cX3_byWords 162 = .ok (.invokevirtual 48, 3) := by decide +kernel
theorem dX3_byWords_165 : decode cX3_byWords 165 = .ok (.iadd, 1) := by decide +kernel
theorem dX3_byWords_166 : decode cX3_byWords 166 = .ok (.istore 11, 2) := by decide +kernel
theorem dX3_byWords_168 : decode cX3_byWords 168 = .ok (.aload_n 0, 1) := by decide +kernel
theorem dX3_byWords_169 : decode cX3_byWords 169 = .ok (.aload_n 1, 1) := by decide +kernel
theorem dX3_byWords_170 : decode cX3_byWords 170 = .ok (.iload 11, 2) := by decide +kernel
theorem dX3_byWords_172 : decode cX3_byWords 172 = .ok (.invokevirtual 52, 3) := by decide +kernel
theorem dX3_byWords_175 : decode cX3_byWords 175 = .ok (.ireturn, 1) := by decide +kernel
theorem dX3_rowOfTwo_0 : decode cX3_rowOfTwo 0 = .ok (.iload_n 3, 1) := by decide +kernel
theorem dX3_rowOfTwo_1 : decode cX3_rowOfTwo 1 = .ok (.iload_n 2, 1) := by decide +kernel
theorem dX3_rowOfTwo_2 : decode cX3_rowOfTwo 2 = .ok (.isub, 1) := by decide +kernel
theorem dX3_rowOfTwo_3 : decode cX3_rowOfTwo 3 = .ok (.istore 4, 2) := by decide +kernel
theorem dX3_rowOfTwo_5 : decode cX3_rowOfTwo 5 = .ok (.iconst 2, 1) := by decide +kernel
theorem dX3_rowOfTwo_6 : decode cX3_rowOfTwo 6 = .ok (.iload 4, 2) := by decide +kernel
theorem dX3_rowOfTwo_8 : decode cX3_rowOfTwo 8 = .ok (.imul, 1) := by decide +kernel
theorem dX3_rowOfTwo_9 : decode cX3_rowOfTwo 9 = .ok (.aload_n 1, 1) := by decide +kernel
theorem dX3_rowOfTwo_10 : decode cX3_rowOfTwo 10 = .ok (.getfield 69, 3) := by decide +kernel
theorem dX3_rowOfTwo_13 : decode cX3_rowOfTwo 13 = .ok (.if_icmp .gt 7, 3) := by decide +kernel
theorem dX3_rowOfTwo_16 : decode cX3_rowOfTwo 16 = .ok (.iconst 1, 1) := by decide +kernel
theorem dX3_rowOfTwo_17 : decode cX3_rowOfTwo 17 = .ok (.goto 4, 3) := by decide +kernel
theorem dX3_rowOfTwo_20 : decode cX3_rowOfTwo 20 = .ok (.iconst 0, 1) := by decide +kernel
theorem dX3_rowOfTwo_21 : decode cX3_rowOfTwo 21 = .ok (.istore 5, 2) := by decide +kernel
theorem dX3_rowOfTwo_23 : decode cX3_rowOfTwo 23 = .ok (.iload 5, 2) := by decide +kernel
theorem dX3_rowOfTwo_25 : decode cX3_rowOfTwo 25 = .ok (.ifCond .eq 8, 3) := by decide +kernel
theorem dX3_rowOfTwo_28 : decode cX3_rowOfTwo 28 = .ok (.iload 4, 2) := by decide +kernel
theorem dX3_rowOfTwo_30 : decode cX3_rowOfTwo 30 = .ok (.goto 10, 3) := by decide +kernel
theorem dX3_rowOfTwo_33 : decode cX3_rowOfTwo 33 = .ok (.aload_n 1, 1) := by decide +kernel
theorem dX3_rowOfTwo_34 : decode cX3_rowOfTwo 34 = .ok (.getfield 69, 3) := by decide +kernel
theorem dX3_rowOfTwo_37 : decode cX3_rowOfTwo 37 = .ok (.iload 4, 2) := by decide +kernel
theorem dX3_rowOfTwo_39 : decode cX3_rowOfTwo 39 = .ok (.isub, 1) := by decide +kernel
theorem dX3_rowOfTwo_40 : decode cX3_rowOfTwo 40 = .ok (.iconst 1, 1) := by decide +kernel
theorem dX3_rowOfTwo_41 : decode cX3_rowOfTwo 41 = .ok (.isub, 1) := by decide +kernel
theorem dX3_rowOfTwo_42 : decode cX3_rowOfTwo 42 = .ok (.istore 6, 2) := by decide +kernel
theorem dX3_rowOfTwo_44 : decode cX3_rowOfTwo 44 = .ok (.aload_n 1, 1) := by decide +kernel
theorem dX3_rowOfTwo_45 : decode cX3_rowOfTwo 45 = .ok (.getfield 83, 3) := by decide +kernel
theorem dX3_rowOfTwo_48 : decode cX3_rowOfTwo 48 = .ok (.iconst 1, 1) := by decide +kernel
theorem dX3_rowOfTwo_49 : decode cX3_rowOfTwo 49 = .ok (.isub, 1) := by decide +kernel
theorem dX3_rowOfTwo_50 : decode cX3_rowOfTwo 50 = .ok (.istore 7, 2) := by decide +kernel
theorem dX3_rowOfTwo_52 : decode cX3_rowOfTwo 52 = .ok (.iload 6, 2) := by decide +kernel
theorem dX3_rowOfTwo_54 : decode cX3_rowOfTwo 54 = .ok (.i2l, 1) := by decide +kernel
theorem dX3_rowOfTwo_55 : decode cX3_rowOfTwo 55 = .ok (.iload 7, 2) := by decide +kernel
theorem dX3_rowOfTwo_57 : decode cX3_rowOfTwo 57 = .ok (.iload 7, 2) := by decide +kernel
theorem dX3_rowOfTwo_59 : decode cX3_rowOfTwo 59 = .ok (.invokestatic 100, 3) := by decide +kernel
theorem dX3_rowOfTwo_62 : decode cX3_rowOfTwo 62 = .ok (.lcmp, 1) := by decide +kernel
theorem dX3_rowOfTwo_63 : decode cX3_rowOfTwo 63 = .ok (.ifCond .lt 6, 3) := by decide +kernel
theorem dX3_rowOfTwo_66 : decode cX3_rowOfTwo 66 = .ok (.bipush (-2), 2) := by decide +kernel
theorem dX3_rowOfTwo_68 : decode cX3_rowOfTwo 68 = .ok (.ireturn, 1) := by decide +kernel
theorem dX3_rowOfTwo_69 : decode cX3_rowOfTwo 69 = .ok (.aload_n 0, 1) := by decide +kernel
theorem dX3_rowOfTwo_70 : decode cX3_rowOfTwo 70 = .ok (.getfield 15, 3) := by decide +kernel
theorem dX3_rowOfTwo_73 : decode cX3_rowOfTwo 73 = .ok (.iconst 0, 1) := by decide +kernel
theorem dX3_rowOfTwo_74 : decode cX3_rowOfTwo 74 = .ok (.iload 5, 2) := by decide +kernel
theorem dX3_rowOfTwo_76 : decode cX3_rowOfTwo 76 = .ok (.ifCond .eq 7, 3) := by decide +kernel
theorem dX3_rowOfTwo_79 : decode cX3_rowOfTwo 79 = .ok (.iload_n 2, 1) := by decide +kernel
theorem dX3_rowOfTwo_80 : decode cX3_rowOfTwo 80 = .ok (.goto 4, 3) := by decide +kernel
theorem dX3_rowOfTwo_83 : decode cX3_rowOfTwo 83 = .ok (.iload_n 3, 1) := by decide +kernel
theorem dX3_rowOfTwo_84 : decode cX3_rowOfTwo 84 = .ok (.iastore, 1) := by decide +kernel
theorem dX3_rowOfTwo_85 : decode cX3_rowOfTwo 85 = .ok (.iconst 1, 1) := by decide +kernel
theorem dX3_rowOfTwo_86 : decode cX3_rowOfTwo 86 = .ok (.istore 8, 2) := by decide +kernel
theorem dX3_rowOfTwo_88 : decode cX3_rowOfTwo 88 = .ok (.iconst 0, 1) := by decide +kernel
theorem dX3_rowOfTwo_89 : decode cX3_rowOfTwo 89 = .ok (.istore 9, 2) := by decide +kernel
theorem dX3_rowOfTwo_91 : decode cX3_rowOfTwo 91 = .ok (.iload 9, 2) := by decide +kernel
theorem dX3_rowOfTwo_93 : decode cX3_rowOfTwo 93 = .ok (.aload_n 1, 1) := by decide +kernel
theorem dX3_rowOfTwo_94 : decode cX3_rowOfTwo 94 = .ok (.getfield 32, 3) := by decide +kernel
theorem dX3_rowOfTwo_97 : decode cX3_rowOfTwo 97 = .ok (.if_icmp .ge 48, 3) := by decide +kernel
theorem dX3_rowOfTwo_100 : decode cX3_rowOfTwo 100 = .ok (.aload_n 0, 1) := by decide +kernel
theorem dX3_rowOfTwo_101 : decode cX3_rowOfTwo 101 = .ok (.getfield 9, 3) := by decide +kernel
theorem dX3_rowOfTwo_104 : decode cX3_rowOfTwo 104 = .ok (.iload 9, 2) := by decide +kernel
theorem dX3_rowOfTwo_106 : decode cX3_rowOfTwo 106 = .ok (.iaload, 1) := by decide +kernel
theorem dX3_rowOfTwo_107 : decode cX3_rowOfTwo 107 = .ok (.iload_n 2, 1) := by decide +kernel
theorem dX3_rowOfTwo_108 : decode cX3_rowOfTwo 108 = .ok (.if_icmp .eq 31, 3) := by decide +kernel
theorem dX3_rowOfTwo_111 : decode cX3_rowOfTwo 111 = .ok (.aload_n 0, 1) := by decide +kernel
theorem dX3_rowOfTwo_112 : decode cX3_rowOfTwo 112 = .ok (.getfield 9, 3) := by decide +kernel
theorem dX3_rowOfTwo_115 : decode cX3_rowOfTwo 115 = .ok (.iload 9, 2) := by decide +kernel
theorem dX3_rowOfTwo_117 : decode cX3_rowOfTwo 117 = .ok (.iaload, 1) := by decide +kernel
theorem dX3_rowOfTwo_118 : decode cX3_rowOfTwo 118 = .ok (.iload_n 3, 1) := by decide +kernel
theorem dX3_rowOfTwo_119 : decode cX3_rowOfTwo 119 = .ok (.if_icmp .eq 20, 3) := by decide +kernel
theorem dX3_rowOfTwo_122 : decode cX3_rowOfTwo 122 = .ok (.aload_n 0, 1) := by decide +kernel
theorem dX3_rowOfTwo_123 : decode cX3_rowOfTwo 123 = .ok (.getfield 15, 3) := by decide +kernel
theorem dX3_rowOfTwo_126 : decode cX3_rowOfTwo 126 = .ok (.iload 8, 2) := by decide +kernel
theorem dX3_rowOfTwo_128 : decode cX3_rowOfTwo 128 = .ok (.aload_n 0, 1) := by decide +kernel
theorem dX3_rowOfTwo_129 : decode cX3_rowOfTwo 129 = .ok (.getfield 9, 3) := by decide +kernel
theorem dX3_rowOfTwo_132 : decode cX3_rowOfTwo 132 = .ok (.iload 9, 2) := by decide +kernel
theorem dX3_rowOfTwo_134 : decode cX3_rowOfTwo 134 = .ok (.iaload, 1) := by decide +kernel
theorem dX3_rowOfTwo_135 : decode cX3_rowOfTwo 135 = .ok (.iastore, 1) := by decide +kernel
theorem dX3_rowOfTwo_136 : decode cX3_rowOfTwo 136 = .ok (.iinc 8 1, 3) := by decide +kernel
theorem dX3_rowOfTwo_139 : decode cX3_rowOfTwo 139 = .ok (.iinc 9 1, 3) := by decide +kernel
theorem dX3_rowOfTwo_142 : decode cX3_rowOfTwo 142 = .ok (.goto (-51), 3) := by decide +kernel
theorem dX3_rowOfTwo_145 : decode cX3_rowOfTwo 145 = .ok (.aload_n 0, 1) := by decide +kernel
theorem dX3_rowOfTwo_146 : decode cX3_rowOfTwo 146 = .ok (.iconst 1, 1) := by decide +kernel
theorem dX3_rowOfTwo_147 : decode cX3_rowOfTwo 147 = .ok (.iload 7, 2) := by decide +kernel
theorem dX3_rowOfTwo_149 : decode cX3_rowOfTwo 149 = .ok (.iload 6, 2) := by decide +kernel
theorem dX3_rowOfTwo_151 : decode cX3_rowOfTwo 151 = .ok (.invokevirtual 89, 3) := by decide +kernel
theorem dX3_rowOfTwo_154 : decode cX3_rowOfTwo 154 = .ok (.aload_n 1, 1) := by decide +kernel
theorem dX3_rowOfTwo_155 : decode cX3_rowOfTwo 155 = .ok (.aload_n 0, 1) := by decide +kernel
theorem dX3_rowOfTwo_156 : decode cX3_rowOfTwo 156 = .ok (.getfield 15, 3) := by decide +kernel
theorem dX3_rowOfTwo_159 : decode cX3_rowOfTwo 159 = .ok (.aload_n 1, 1) := by decide +kernel
theorem dX3_rowOfTwo_160 : decode cX3_rowOfTwo 160 = .ok (.getfield 83, 3) := by decide +kernel
theorem dX3_rowOfTwo_163 : decode cX3_rowOfTwo 163 = .ok (.invokevirtual 93, 3) := by decide +kernel
theorem dX3_rowOfTwo_166 : decode cX3_rowOfTwo 166 = .ok (.aload_n 1, 1) := by decide +kernel
theorem dX3_rowOfTwo_167 : decode cX3_rowOfTwo 167 = .ok (.getfield 97, 3) := by decide +kernel
theorem dX3_rowOfTwo_170 : decode cX3_rowOfTwo 170 = .ok (.imul, 1) := by decide +kernel
theorem dX3_rowOfTwo_171 : decode cX3_rowOfTwo 171 = .ok (.ireturn, 1) := by decide +kernel
theorem dX3_bySuit_0 : decode cX3_bySuit 0 = .ok (.aload_n 1, 1) := by decide +kernel
theorem dX3_bySuit_1 : decode cX3_bySuit 1 = .ok (.invokevirtual 79, 3) := by decide +kernel
theorem dX3_bySuit_4 : decode cX3_bySuit 4 = .ok (.ifCond .eq 11, 3) := by decide +kernel
theorem dX3_bySuit_7 : decode cX3_bySuit 7 = .ok (.aload_n 1, 1) := by decide +kernel
theorem dX3_bySuit_8 : decode cX3_bySuit 8 = .ok (.getfield 26, 3) := by decide +kernel
theorem dX3_bySuit_11 : decode cX3_bySuit 11 = .ok (.iconst 1, 1) := by decide +kernel
theorem dX3_bySuit_12 : decode cX3_bySuit 12 = .ok (.if_icmp .eq 6, 3) := by decide +kernel
theorem dX3_bySuit_15 : decode cX3_bySuit 15 = .ok (.bipush (-2), 2) := by decide +kernel
theorem dX3_bySuit_17 : decode cX3_bySuit 17 = .ok (.ireturn, 1) := by decide +kernel
theorem dX3_bySuit_18 : decode cX3_bySuit 18 = .ok (.aload_n 0, 1) := by decide +kernel
theorem dX3_bySuit_19 : decode cX3_bySuit 19 = .ok (.aload_n 1, 1) := by decide +kernel
theorem dX3_bySuit_20 : decode cX3_bySuit 20 = .ok (.iload_n 2, 1) := by decide +kernel
theorem dX3_bySuit_21 : decode cX3_bySuit 21 = .ok (.invokevirtual 18, 3) := by decide +kernel
theorem dX3_bySuit_24 : decode cX3_bySuit 24 = .ok (.iconst 0, 1) := by decide +kernel
theorem dX3_bySuit_25 : decode cX3_bySuit 25 = .ok (.istore_n 3, 1) := by decide +kernel
theorem dX3_bySuit_26 : decode cX3_bySuit 26 = .ok (.iload_n 3, 1) := by decide +kernel
theorem dX3_bySuit_27 : decode cX3_bySuit 27 = .ok (.aload_n 1, 1) := by decide +kernel
theorem dX3_bySuit_28 : decode cX3_bySuit 28 = .ok (.getfield 32, 3) := by decide +kernel
theorem dX3_bySuit_31 : decode cX3_bySuit 31 = .ok (.if_icmp .ge 74, 3) := by decide +kernel
theorem dX3_bySuit_34 : decode cX3_bySuit 34 = .ok (.iload_n 3, 1) := by decide +kernel
theorem dX3_bySuit_35 : decode cX3_bySuit 35 = .ok (.iconst 1, 1) := by decide +kernel
theorem dX3_bySuit_36 : decode cX3_bySuit 36 = .ok (.iadd, 1) := by decide +kernel
theorem dX3_bySuit_37 : decode cX3_bySuit 37 = .ok (.istore 4, 2) := by decide +kernel
theorem dX3_bySuit_39 : decode cX3_bySuit 39 = .ok (.iload 4, 2) := by decide +kernel
theorem dX3_bySuit_41 : decode cX3_bySuit 41 = .ok (.aload_n 1, 1) := by decide +kernel
theorem dX3_bySuit_42 : decode cX3_bySuit 42 = .ok (.getfield 32, 3) := by decide +kernel
theorem dX3_bySuit_45 : decode cX3_bySuit 45 = .ok (.if_icmp .ge 54, 3) := by decide +kernel
theorem dX3_bySuit_48 : decode cX3_bySuit 48 = .ok (.aload_n 0, 1) := by decide +kernel
theorem dX3_bySuit_49 : decode cX3_bySuit 49 = .ok (.getfield 9, 3) := by decide +kernel
theorem dX3_bySuit_52 : decode cX3_bySuit 52 = .ok (.iload_n 3, 1) := by decide +kernel
theorem dX3_bySuit_53 : decode cX3_bySuit 53 = .ok (.iaload, 1) := by decide +kernel
theorem dX3_bySuit_54 : decode cX3_bySuit 54 = .ok (.aload_n 1, 1) := by decide +kernel
theorem dX3_bySuit_55 : decode cX3_bySuit 55 = .ok (.getfield 69, 3) := by decide +kernel
theorem dX3_bySuit_58 : decode cX3_bySuit 58 = .ok (.idiv, 1) := by decide +kernel
theorem dX3_bySuit_59 : decode cX3_bySuit 59 = .ok (.aload_n 0, 1) := by decide +kernel
theorem dX3_bySuit_60 : decode cX3_bySuit 60 = .ok (.getfield 9, 3) := by decide +kernel
theorem dX3_bySuit_63 : decode cX3_bySuit 63 = .ok (.iload 4, 2) := by decide +kernel
theorem dX3_bySuit_65 : decode cX3_bySuit 65 = .ok (.iaload, 1) := by decide +kernel
theorem dX3_bySuit_66 : decode cX3_bySuit 66 = .ok (.aload_n 1, 1) := by decide +kernel
theorem dX3_bySuit_67 : decode cX3_bySuit 67 = .ok (.getfield 69, 3) := by decide +kernel
theorem dX3_bySuit_70 : decode cX3_bySuit 70 = .ok (.idiv, 1) := by decide +kernel
theorem dX3_bySuit_71 : decode cX3_bySuit 71 = .ok (.if_icmp .ne 22, 3) := by decide +kernel
theorem dX3_bySuit_74 : decode cX3_bySuit 74 = .ok (.aload_n 0, 1) := by decide +kernel
theorem dX3_bySuit_75 : decode cX3_bySuit 75 = .ok (.aload_n 1, 1) := by decide +kernel
theorem dX3_bySuit_76 : decode cX3_bySuit 76 = .ok (.aload_n 0, 1) := by decide +kernel
theorem dX3_bySuit_77 : decode cX3_bySuit 77 = .ok (.getfield 9, 3) := by decide +kernel
theorem dX3_bySuit_80 : decode cX3_bySuit 80 = .ok (.iload_n 3, 1) := by decide +kernel
theorem dX3_bySuit_81 : decode cX3_bySuit 81 = .ok (.iaload, 1) := by decide +kernel
theorem dX3_bySuit_82 : decode cX3_bySuit 82 = .ok (.aload_n 0, 1) := by decide +kernel
theorem dX3_bySuit_83 : decode cX3_bySuit 83 = .ok (.getfield 9, 3) := by decide +kernel
theorem dX3_bySuit_86 : decode cX3_bySuit 86 = .ok (.iload 4, 2) := by decide +kernel
theorem dX3_bySuit_88 : decode cX3_bySuit 88 = .ok (.iaload, 1) := by decide +kernel
theorem dX3_bySuit_89 : decode cX3_bySuit 89 = .ok (.invokevirtual 104, 3) := by decide +kernel
theorem dX3_bySuit_92 : decode cX3_bySuit 92 = .ok (.ireturn, 1) := by decide +kernel
theorem dX3_bySuit_93 : decode cX3_bySuit 93 = .ok (.iinc 4 1, 3) := by decide +kernel
theorem dX3_bySuit_96 : decode cX3_bySuit 96 = .ok (.goto (-57), 3) := by decide +kernel
theorem dX3_bySuit_99 : decode cX3_bySuit 99 = .ok (.iinc 3 1, 3) := by decide +kernel
theorem dX3_bySuit_102 : decode cX3_bySuit 102 = .ok (.goto (-76), 3) := by decide +kernel
theorem dX3_bySuit_105 : decode cX3_bySuit 105 = .ok (.bipush (-2), 2) := by decide +kernel
theorem dX3_bySuit_107 : decode cX3_bySuit 107 = .ok (.ireturn, 1) := by decide +kernel
set_option maxHeartbeats 4000000 in
set_option maxRecDepth 100000 in
theorem sX3_gapBelow {l : Launch} {D : va_G} {cA : Nat → ClassId} {base : Nat} {sA : Nat → Nat} {x0 : Int32} {x1 : Int32} {x2 : Int32} {h hE : Zh} {rE : Int32} (hf : fX3_gapBelow x0 x1 x2 h = some (rE, hE)) : zC l yX3_gapBelow cX3_gapBelow 5 (some .int) 0 0 D cA base sA [.int x0, .int x1, .int x2] h (some (.int rE)) hE := by
  refine g_entry RX3 (by decide) rfl (Nat.le_of_ble_eq_true rfl) ?_
  intro p e s m args below meth c X hr
  unfold fX3_gapBelow at hf
  have hf := zlet_n (x := h) rfl hf
  show zG p l e { frames := 0, cells := 0, slots := 0, locals := 0 } s m args below meth c (MQ below (zQ D cA base h hE (some (.int rE))) args s 0 0 (zA base)) 5 D cA base h 0 [(0, .int x0), (1, .int x1), (2, .int x2)] [] h
  refine g_iconst X (v := 1) dX3_gapBelow_0 (by decide) ?_
  refine g_istore_n X [(3, .int ((1 : Int32))), (0, .int x0), (1, .int x1), (2, .int x2)] dX3_gapBelow_1 (by decide) rfl ?_
  refine g_sub [1, 2, 3, 0] rfl ?_
  obtain ⟨qq, hlp, hf⟩ := zbd hf
  refine lp_snd (body := (fun q : Int32 × Zh => bX3_gapBelow_2 h x0 x1 x2 q.1 q.2)) (P := (fun q : Int32 × Zh => zG p l e { frames := 0, cells := 0, slots := 0, locals := 0 } s m args below meth c (MQ below (zQ D cA base h hE (some (.int rE))) args s 0 0 (zA base)) 5 D cA base h 2 [(0, .int x0), (1, .int x1), (2, .int x2), (3, .int q.1)] [] q.2)) (E := (fun (en : Nat) (q : Int32 × Zh) => if en = 1 then zG p l e { frames := 0, cells := 0, slots := 0, locals := 0 } s m args below meth c (MQ below (zQ D cA base h hE (some (.int rE))) args s 0 0 (zA base)) 5 D cA base h 35 [(3, .int q.1)] [] q.2 else zG p l e { frames := 0, cells := 0, slots := 0, locals := 0 } s m args below meth c (MQ below (zQ D cA base h hE (some (.int rE))) args s 0 0 (zA base)) 5 D cA base h 43 [] [] q.2)) ?_ zB ((1 : Int32), h) qq.1 qq.2 hlp ?_
  · intro q e_2 q_2 hf hc0 hc1
    obtain ⟨x3_2, h_2⟩ := q
    have hf : bX3_gapBelow_2 h x0 x1 x2 x3_2 h_2 = some (e_2, q_2) := hf
    unfold bX3_gapBelow_2 at hf
    show zG p l e { frames := 0, cells := 0, slots := 0, locals := 0 } s m args below meth c (MQ below (zQ D cA base h hE (some (.int rE))) args s 0 0 (zA base)) 5 D cA base h 2 [(0, .int x0), (1, .int x1), (2, .int x2), (3, .int x3_2)] [] h_2
    refine g_iload_n X 3 dX3_gapBelow_2 rfl ?_
    refine g_iload_n X 0 dX3_gapBelow_3 rfl ?_
    refine g_icmp_ge X 43 dX3_gapBelow_4 (by decide) (fun hq => ?_) (fun hq => ?_)
    · have hf := zpos hq hf
      cases hf
      have hc1 := hc1 (by decide)
      exact g_sub [] rfl (zun_n (by decide) hc1)
    · have hf := zneg hq hf
      refine g_iload_n X 1 dX3_gapBelow_7 rfl ?_
      refine g_iload_n X 3 dX3_gapBelow_8 rfl ?_
      have hJ23 : ∀ (x3_23 : Int32) (t0_23 : Int32) (h_23 : Zh), jX3_gapBelow_23 h x0 x1 x2 x3_23 t0_23 h_23 = some (e_2, q_2) → zG p l e { frames := 0, cells := 0, slots := 0, locals := 0 } s m args below meth c (MQ below (zQ D cA base h hE (some (.int rE))) args s 0 0 (zA base)) 5 D cA base h 23 [(0, .int x0), (1, .int x1), (2, .int x2), (3, .int x3_23)] [.int t0_23] h_23 := by
        intro x3_23 t0_23 h_23 hf
        unfold jX3_gapBelow_23 at hf
        refine g_istore X [(4, .int t0_23), (0, .int x0), (1, .int x1), (2, .int x2), (3, .int x3_23)] dX3_gapBelow_23 (by decide) rfl ?_
        refine g_iload_n X 3 dX3_gapBelow_25 rfl ?_
        refine g_iload X 0 dX3_gapBelow_26 rfl ?_
        refine g_ishr X dX3_gapBelow_28 ?_
        refine g_iconst X (v := 1) dX3_gapBelow_29 (by decide) ?_
        refine g_iand X dX3_gapBelow_30 ?_
        refine g_iconst X (v := 1) dX3_gapBelow_31 (by decide) ?_
        refine g_icmp_ne X 37 dX3_gapBelow_32 (by decide) (fun hq => ?_) (fun hq => ?_)
        · have hf := zneg hq hf
          obtain ⟨y1, ey1⟩ : ∃ y : Int32, y = x3_23 + (1 : Int32) := ⟨_, rfl⟩
          have hf := zlet_n ey1 hf
          refine g_iinc X (j := 4) [(3, .int y1), (4, .int t0_23), (0, .int x0), (1, .int x1), (2, .int x2)] dX3_gapBelow_37 rfl (by rw [ey1]; rfl) (by decide) rfl ?_
          refine g_goto X 2 dX3_gapBelow_40 (by decide) ?_
          cases hf
          exact g_sub [2, 3, 4, 0] rfl (hc0 rfl)
        · have hf := zpos hq hf
          cases hf
          have hc1 := hc1 (by decide)
          exact g_sub [4] rfl (zun_p rfl hc1)
      refine g_icmp_lt X 18 dX3_gapBelow_9 (by decide) (fun hq => ?_) (fun hq => ?_)
      · have hf := zpos hq hf
        refine g_iload_n X 1 dX3_gapBelow_18 rfl ?_
        refine g_iload_n X 3 dX3_gapBelow_19 rfl ?_
        refine g_isub X dX3_gapBelow_20 ?_
        refine g_iload_n X 0 dX3_gapBelow_21 rfl ?_
        refine g_iadd X dX3_gapBelow_22 ?_
        refine g_sub [0, 1, 2, 3] rfl ?_
        exact hJ23 _ _ _ hf
      · have hf := zneg hq hf
        refine g_iload_n X 1 dX3_gapBelow_12 rfl ?_
        refine g_iload_n X 3 dX3_gapBelow_13 rfl ?_
        refine g_isub X dX3_gapBelow_14 ?_
        refine g_goto X 23 dX3_gapBelow_15 (by decide) ?_
        refine g_sub [0, 1, 2, 3] rfl ?_
        exact hJ23 _ _ _ hf
  · obtain ⟨ee, x3_k2, h_k2⟩ := qq
    have hf : kX3_gapBelow_2 h ee x3_k2 h_k2 = some (rE, hE) := hf
    unfold kX3_gapBelow_2 at hf
    by_cases hee0 : ee = 1
    · have hf := zpos hee0 hf
      refine zifp hee0 ?_
      show zG p l e { frames := 0, cells := 0, slots := 0, locals := 0 } s m args below meth c (MQ below (zQ D cA base h hE (some (.int rE))) args s 0 0 (zA base)) 5 D cA base h 35 [(3, .int x3_k2)] [] h_k2
      refine g_iload_n X 0 dX3_gapBelow_35 rfl ?_
      obtain ⟨rfl, rfl⟩ := zsm hf
      exact g_iret X hr dX3_gapBelow_36
    have hf := zneg hee0 hf
    refine zifn hee0 ?_
    show zG p l e { frames := 0, cells := 0, slots := 0, locals := 0 } s m args below meth c (MQ below (zQ D cA base h hE (some (.int rE))) args s 0 0 (zA base)) 5 D cA base h 43 [] [] h_k2
    refine g_iconst X (v := 0) dX3_gapBelow_43 (by decide) ?_
    obtain ⟨rfl, rfl⟩ := zsm hf
    exact g_iret X hr dX3_gapBelow_44

set_option maxHeartbeats 4000000 in
set_option maxRecDepth 100000 in
theorem sX3_tellOf {l : Launch} {D : va_G} {cA : Nat → ClassId} {base : Nat} {sA : Nat → Nat} {r0 : Nat} {r1 : Nat} {x2 : Int32} {x3 : Int32} {x4 : Int32} {x5 : Int32} {h hE : Zh} {rE : Int32} (hf : fX3_tellOf r0 r1 x2 x3 x4 x5 h = some (rE, hE)) : zC l yX3_tellOf cX3_tellOf 6 (some .int) 2 41 D cA base sA [.ref (base + r0), .ref (base + r1), .int x2, .int x3, .int x4, .int x5] h (some (.int rE)) hE := by
  refine g_entry RX3 (by decide) rfl (Nat.le_of_ble_eq_true rfl) ?_
  intro p e s m args below meth c X hr
  unfold fX3_tellOf at hf
  have hf := zlet_n (x := h) rfl hf
  show zG p l e { frames := 2, cells := 0, slots := 0, locals := 41 } s m args below meth c (MQ below (zQ D cA base h hE (some (.int rE))) args s 0 0 (zA base)) 6 D cA base h 0 [(0, .ref (base + r0)), (1, .ref (base + r1)), (2, .int x2), (3, .int x3), (4, .int x4), (5, .int x5)] [] h
  refine g_iload_n X 2 dX3_tellOf_0 rfl ?_
  by_cases hs1 : x2 = 0
  · have hf := zpos hs1 hf
    refine g_tswIn X 32 dX3_tellOf_1 (by rw [hs1]; decide) (by rw [hs1]; decide) (by rw [hs1]; rfl) (by decide) ?_
    refine g_iload_n X 3 dX3_tellOf_32 rfl ?_
    obtain ⟨rfl, rfl⟩ := zsm hf
    exact g_iret X hr dX3_tellOf_33
  have hf := zneg hs1 hf
  have ehs1 := lv_neT hs1 (a := 0) (by decide)
  by_cases hs4 : x2 = 1
  · have hf := zpos hs4 hf
    refine g_tswIn X 34 dX3_tellOf_1 (by rw [hs4]; decide) (by rw [hs4]; decide) (by rw [hs4]; rfl) (by decide) ?_
    refine g_iload_n X 3 dX3_tellOf_34 rfl ?_
    refine g_aload_n X 1 dX3_tellOf_35 rfl ?_
    obtain ⟨hk2, hf⟩ := zite hf
    refine g_get X zf0 hk2 2 (by decide) w_f_RX3_69 rfl rfl dX3_tellOf_36 ?_
    obtain ⟨hn3, hf⟩ := zite hf
    refine g_irem X hn3 dX3_tellOf_39 ?_
    obtain ⟨rfl, rfl⟩ := zsm hf
    exact g_iret X hr dX3_tellOf_40
  have hf := zneg hs4 hf
  have ehs4 := lv_neT hs4 (a := 1) (by decide)
  by_cases hs8 : x2 = 2
  · have hf := zpos hs8 hf
    refine g_tswIn X 41 dX3_tellOf_1 (by rw [hs8]; decide) (by rw [hs8]; decide) (by rw [hs8]; rfl) (by decide) ?_
    refine g_aload_n X 1 dX3_tellOf_41 rfl ?_
    obtain ⟨hk5, hf⟩ := zite hf
    refine g_get X zf0 hk5 0 (by decide) w_f_RX3_55 rfl rfl dX3_tellOf_42 ?_
    refine g_iload_n X 3 dX3_tellOf_45 rfl ?_
    refine g_iload X 4 dX3_tellOf_46 rfl ?_
    obtain ⟨v7, h6, hch6, hf⟩ := zc2_e hf
    refine g_callS X 3 (sX3_gapBelow hch6) ysX3_gapBelow w_ml_RX3_72 w_static_X3_gapBelow w_ini_RX3 w_code_X3_gapBelow (by decide) rfl (st := []) rfl rfl (Nat.le_of_ble_eq_true rfl) dX3_tellOf_48 ?_
    obtain ⟨rfl, rfl⟩ := zsm hf
    exact g_iret X hr dX3_tellOf_51
  have hf := zneg hs8 hf
  have ehs8 := lv_neT hs8 (a := 2) (by decide)
  by_cases hs13 : x2 = 3
  · have hf := zpos hs13 hf
    refine g_tswIn X 52 dX3_tellOf_1 (by rw [hs13]; decide) (by rw [hs13]; decide) (by rw [hs13]; rfl) (by decide) ?_
    refine g_iload_n X 3 dX3_tellOf_52 rfl ?_
    refine g_iload X 4 dX3_tellOf_53 rfl ?_
    refine g_iload_n X 3 dX3_tellOf_55 rfl ?_
    obtain ⟨v10, h9, hch9, hf⟩ := zc2_e hf
    refine g_callS X 2 (sX0_lower hch9) ysX0_lower w_ml_RX3_76 w_static_X0_lower w_ini_RX0 w_code_X0_lower (by decide) rfl (st := [.int x3]) rfl rfl (Nat.le_of_ble_eq_true rfl) dX3_tellOf_56 ?_
    refine g_isub X dX3_tellOf_59 ?_
    refine g_aload_n X 1 dX3_tellOf_60 rfl ?_
    obtain ⟨hk11, hf⟩ := zite hf
    refine g_get X zf0 hk11 3 (by decide) w_f_RX3_32 rfl rfl dX3_tellOf_61 ?_
    obtain ⟨hn12, hf⟩ := zite hf
    refine g_idiv X hn12 dX3_tellOf_64 ?_
    obtain ⟨rfl, rfl⟩ := zsm hf
    exact g_iret X hr dX3_tellOf_65
  have hf := zneg hs13 hf
  have ehs13 := lv_neT hs13 (a := 3) (by decide)
  refine g_tswOut X 66 dX3_tellOf_1 (by omega) (by decide) ?_
  refine g_iload X 5 dX3_tellOf_66 rfl ?_
  refine g_aload_n X 1 dX3_tellOf_68 rfl ?_
  obtain ⟨hk14, hf⟩ := zite hf
  refine g_get X zf0 hk14 0 (by decide) w_f_RX3_55 rfl rfl dX3_tellOf_69 ?_
  obtain ⟨hn15, hf⟩ := zite hf
  refine g_irem X hn15 dX3_tellOf_72 ?_
  obtain ⟨rfl, rfl⟩ := zsm hf
  exact g_iret X hr dX3_tellOf_73

set_option maxHeartbeats 4000000 in
set_option maxRecDepth 100000 in
theorem sX3_arrange {l : Launch} {D : va_G} {cA : Nat → ClassId} {base : Nat} {sA : Nat → Nat} {r0 : Nat} {x1 : Int32} {x2 : Int32} {x3 : Int32} {h hE : Zh} (hf : fX3_arrange r0 x1 x2 x3 h = some hE) : zC l yX3_arrange cX3_arrange 11 none 1 24 D cA base sA [.ref (base + r0), .int x1, .int x2, .int x3] h none hE := by
  refine g_entry RX3 (by decide) rfl (Nat.le_of_ble_eq_true rfl) ?_
  intro p e s m args below meth c X hr
  unfold fX3_arrange at hf
  have hf := zlet_n (x := h) rfl hf
  show zG p l e { frames := 1, cells := 0, slots := 0, locals := 24 } s m args below meth c (MQ below (zQ D cA base h hE none) args s 0 0 (zA base)) 11 D cA base h 0 [(0, .ref (base + r0)), (1, .int x1), (2, .int x2), (3, .int x3)] [] h
  refine g_iload_n X 3 dX3_arrange_0 rfl ?_
  refine g_istore X [(4, .int x3), (0, .ref (base + r0)), (1, .int x1), (2, .int x2), (3, .int x3)] dX3_arrange_1 (by decide) rfl ?_
  refine g_iconst X (v := 0) dX3_arrange_3 (by decide) ?_
  refine g_istore X [(5, .int ((0 : Int32))), (4, .int x3), (0, .ref (base + r0)), (1, .int x1), (2, .int x2), (3, .int x3)] dX3_arrange_4 (by decide) rfl ?_
  refine g_sub [2, 3, 4, 1, 0] rfl ?_
  obtain ⟨qq, hlp, hf⟩ := zbd hf
  refine lp_snd (body := (fun q : Int32 × Int32 × Zh => bX3_arrange_6 h r0 x1 x2 q.1 q.2.1 q.2.2)) (P := (fun q : Int32 × Int32 × Zh => zG p l e { frames := 1, cells := 0, slots := 0, locals := 24 } s m args below meth c (MQ below (zQ D cA base h hE none) args s 0 0 (zA base)) 11 D cA base h 6 [(0, .ref (base + r0)), (1, .int x1), (2, .int x2), (4, .int q.1), (5, .int q.2.1)] [] q.2.2)) (E := (fun (en : Nat) (q : Int32 × Int32 × Zh) => zG p l e { frames := 1, cells := 0, slots := 0, locals := 24 } s m args below meth c (MQ below (zQ D cA base h hE none) args s 0 0 (zA base)) 11 D cA base h 112 [] [] q.2.2)) ?_ zB (x3, ((0 : Int32), h)) qq.1 qq.2 hlp ?_
  · intro q e_6 q_6 hf hc0 hc1
    obtain ⟨x4_6, x5_6, h_6⟩ := q
    have hf : bX3_arrange_6 h r0 x1 x2 x4_6 x5_6 h_6 = some (e_6, q_6) := hf
    unfold bX3_arrange_6 at hf
    show zG p l e { frames := 1, cells := 0, slots := 0, locals := 24 } s m args below meth c (MQ below (zQ D cA base h hE none) args s 0 0 (zA base)) 11 D cA base h 6 [(0, .ref (base + r0)), (1, .int x1), (2, .int x2), (4, .int x4_6), (5, .int x5_6)] [] h_6
    refine g_iload X 4 dX3_arrange_6 rfl ?_
    refine g_iload_n X 2 dX3_arrange_8 rfl ?_
    refine g_iconst X (v := 1) dX3_arrange_9 (by decide) ?_
    refine g_isub X dX3_arrange_10 ?_
    refine g_icmp_ge X 112 dX3_arrange_11 (by decide) (fun hq => ?_) (fun hq => ?_)
    · have hf := zpos hq hf
      cases hf
      have hc1 := hc1 (by decide)
      exact g_sub [] rfl hc1
    · have hf := zneg hq hf
      refine g_iload_n X 2 dX3_arrange_14 rfl ?_
      refine g_iconst X (v := 1) dX3_arrange_15 (by decide) ?_
      refine g_isub X dX3_arrange_16 ?_
      refine g_iload X 4 dX3_arrange_17 rfl ?_
      refine g_isub X dX3_arrange_19 ?_
      refine g_iload_n X 2 dX3_arrange_20 rfl ?_
      refine g_iconst X (v := 1) dX3_arrange_21 (by decide) ?_
      refine g_isub X dX3_arrange_22 ?_
      refine g_iload X 4 dX3_arrange_23 rfl ?_
      refine g_isub X dX3_arrange_25 ?_
      obtain ⟨v2, h1, hch1, hf⟩ := zc2_e hf
      refine g_callS X 2 (sX0_falling hch1) ysX0_falling w_ml_RX3_100 w_static_X0_falling w_ini_RX0 w_code_X0_falling (by decide) rfl (st := []) rfl rfl (Nat.le_of_ble_eq_true rfl) dX3_arrange_26 ?_
      refine g_l2i X dX3_arrange_29 ?_
      refine g_topi (fun y3 ey3 => ?_)
      have hf := zlet_n ey3 hf
      refine g_istore X [(6, .int y3), (0, .ref (base + r0)), (1, .int x1), (2, .int x2), (4, .int x4_6), (5, .int x5_6)] dX3_arrange_30 (by decide) rfl ?_
      refine g_iload_n X 2 dX3_arrange_32 rfl ?_
      refine g_iload X 5 dX3_arrange_33 rfl ?_
      refine g_iadd X dX3_arrange_35 ?_
      refine g_topi (fun y4 ey4 => ?_)
      have hf := zlet_n ey4 hf
      refine g_istore X [(7, .int y4), (6, .int y3), (0, .ref (base + r0)), (1, .int x1), (2, .int x2), (4, .int x4_6), (5, .int x5_6)] dX3_arrange_36 (by decide) rfl ?_
      refine g_iload X 0 dX3_arrange_38 rfl ?_
      refine g_iload X 5 dX3_arrange_40 rfl ?_
      refine g_iload X 1 dX3_arrange_42 rfl ?_
      obtain ⟨hn5, hf⟩ := zite hf
      refine g_idiv X hn5 dX3_arrange_44 ?_
      refine g_iadd X dX3_arrange_45 ?_
      refine g_topi (fun y6 ey6 => ?_)
      have hf := zlet_n ey6 hf
      refine g_istore X [(8, .int y6), (7, .int y4), (6, .int y3), (0, .ref (base + r0)), (1, .int x1), (2, .int x2), (4, .int x4_6), (5, .int x5_6)] dX3_arrange_46 (by decide) rfl ?_
      refine g_iload X 6 dX3_arrange_48 rfl ?_
      refine g_iload X 2 dX3_arrange_50 rfl ?_
      obtain ⟨hn7, hf⟩ := zite hf
      refine g_irem X hn7 dX3_arrange_52 ?_
      refine g_topi (fun y8 ey8 => ?_)
      have hf := zlet_n ey8 hf
      refine g_istore X [(4, .int y8), (8, .int y6), (7, .int y4), (6, .int y3), (0, .ref (base + r0)), (1, .int x1), (2, .int x2), (5, .int x5_6)] dX3_arrange_53 (by decide) rfl ?_
      refine g_aload_n X 4 dX3_arrange_55 rfl ?_
      obtain ⟨hk9, hf⟩ := zite hf
      obtain ⟨r_10, hr_10, hf⟩ := zbd hf
      refine g_get X zf3 hk9 1 (by decide) w_f_RX3_15 rfl (zfv_r hr_10 rfl) dX3_arrange_56 ?_
      refine g_iload X 1 dX3_arrange_59 rfl ?_
      obtain ⟨hk11, hf⟩ := zite hf
      obtain ⟨hi12, hf⟩ := zite hf
      refine g_iald X hk11 hi12 dX3_arrange_61 ?_
      refine g_topi (fun y13 ey13 => ?_)
      have hf := zlet_n ey13 hf
      refine g_istore X [(9, .int y13), (4, .int y8), (8, .int y6), (7, .int y4), (6, .int y3), (0, .ref (base + r0)), (1, .int x1), (2, .int x2), (5, .int x5_6)] dX3_arrange_62 (by decide) rfl ?_
      refine g_iload X 2 dX3_arrange_64 rfl ?_
      refine g_istore X [(10, .int y6), (9, .int y13), (4, .int y8), (8, .int y6), (7, .int y4), (6, .int y3), (0, .ref (base + r0)), (1, .int x1), (2, .int x2), (5, .int x5_6)] dX3_arrange_66 (by decide) rfl ?_
      refine g_sub [6, 7, 8, 2, 9, 4, 1, 0] rfl ?_
      obtain ⟨qq, hlp, hf⟩ := zbd hf
      refine lp_snd (body := (fun q : Int32 × Zh => bX3_arrange_68 h r0 y4 q.1 q.2)) (P := (fun q : Int32 × Zh => zG p l e { frames := 1, cells := 0, slots := 0, locals := 24 } s m args below meth c (MQ below (zQ D cA base h hE none) args s 0 0 (zA base)) 11 D cA base h 68 [(0, .ref (base + r0)), (1, .int x1), (2, .int x2), (4, .int y8), (5, .int x5_6), (7, .int y4), (9, .int y13), (10, .int q.1)] [] q.2)) (E := (fun (en : Nat) (q : Int32 × Zh) => zG p l e { frames := 1, cells := 0, slots := 0, locals := 24 } s m args below meth c (MQ below (zQ D cA base h hE none) args s 0 0 (zA base)) 11 D cA base h 97 [(0, .ref (base + r0)), (1, .int x1), (2, .int x2), (4, .int y8), (5, .int x5_6), (7, .int y4), (9, .int y13)] [] q.2)) ?_ zB (y6, h1) qq.1 qq.2 hlp ?_
      · intro q e_68 q_68 hf hc0 hc1
        obtain ⟨x10_68, h_68⟩ := q
        have hf : bX3_arrange_68 h r0 y4 x10_68 h_68 = some (e_68, q_68) := hf
        unfold bX3_arrange_68 at hf
        show zG p l e { frames := 1, cells := 0, slots := 0, locals := 24 } s m args below meth c (MQ below (zQ D cA base h hE none) args s 0 0 (zA base)) 11 D cA base h 68 [(0, .ref (base + r0)), (1, .int x1), (2, .int x2), (4, .int y8), (5, .int x5_6), (7, .int y4), (9, .int y13), (10, .int x10_68)] [] h_68
        refine g_iload X 7 dX3_arrange_68 rfl ?_
        refine g_iload X 5 dX3_arrange_70 rfl ?_
        refine g_icmp_le X 97 dX3_arrange_72 (by decide) (fun hq => ?_) (fun hq => ?_)
        · have hf := zpos hq hf
          cases hf
          have hc1 := hc1 (by decide)
          exact g_sub [0, 1, 2, 3, 4, 5, 6] rfl hc1
        · have hf := zneg hq hf
          refine g_aload_n X 0 dX3_arrange_75 rfl ?_
          obtain ⟨r_14, hr_14, hf⟩ := zbd hf
          refine g_get X zf3 hk9 1 (by decide) w_f_RX3_15 rfl (zfv_r hr_14 rfl) dX3_arrange_76 ?_
          refine g_iload X 7 dX3_arrange_79 rfl ?_
          refine g_aload_n X 0 dX3_arrange_81 rfl ?_
          obtain ⟨r_15, hr_15, hf⟩ := zbd hf
          refine g_get X zf3 hk9 1 (by decide) w_f_RX3_15 rfl (zfv_r hr_15 rfl) dX3_arrange_82 ?_
          refine g_iload X 7 dX3_arrange_85 rfl ?_
          refine g_iconst X (v := 1) dX3_arrange_87 (by decide) ?_
          refine g_isub X dX3_arrange_88 ?_
          obtain ⟨hk16, hf⟩ := zite hf
          obtain ⟨hi17, hf⟩ := zite hf
          refine g_iald X hk16 hi17 dX3_arrange_89 ?_
          obtain ⟨hk18, hf⟩ := zite hf
          obtain ⟨hi19, hf⟩ := zite hf
          refine g_iast X hk18 hi19 dX3_arrange_90 ?_
          refine g_hp (fun h20 eh20 => ?_)
          have hf := zlet_n eh20 hf
          obtain ⟨y21, ey21⟩ : ∃ y : Int32, y = x10_68 + (-1 : Int32) := ⟨_, rfl⟩
          have hf := zlet_n ey21 hf
          refine g_iinc X (j := 7) [(10, .int y21), (0, .ref (base + r0)), (1, .int x1), (2, .int x2), (4, .int y8), (5, .int x5_6), (7, .int y4), (9, .int y13)] dX3_arrange_91 rfl (by rw [ey21]; rfl) (by decide) rfl ?_
          refine g_goto X 68 dX3_arrange_94 (by decide) ?_
          cases hf
          exact g_sub [1, 2, 3, 4, 5, 6, 7, 0] rfl (hc0 rfl)
      · obtain ⟨ee, x10_k68, h_k68⟩ := qq
        have hf : kX3_arrange_68 h r0 x1 x2 y8 x5_6 y4 y13 ee x10_k68 h_k68 = some (e_6, q_6) := hf
        unfold kX3_arrange_68 at hf
        show zG p l e { frames := 1, cells := 0, slots := 0, locals := 24 } s m args below meth c (MQ below (zQ D cA base h hE none) args s 0 0 (zA base)) 11 D cA base h 97 [(0, .ref (base + r0)), (1, .int x1), (2, .int x2), (4, .int y8), (5, .int x5_6), (7, .int y4), (9, .int y13)] [] h_k68
        refine g_aload_n X 0 dX3_arrange_97 rfl ?_
        obtain ⟨r_22, hr_22, hf⟩ := zbd hf
        refine g_get X zf3 hk9 1 (by decide) w_f_RX3_15 rfl (zfv_r hr_22 rfl) dX3_arrange_98 ?_
        refine g_iload X 5 dX3_arrange_101 rfl ?_
        refine g_iload X 6 dX3_arrange_103 rfl ?_
        obtain ⟨hk23, hf⟩ := zite hf
        obtain ⟨hi24, hf⟩ := zite hf
        refine g_iast X hk23 hi24 dX3_arrange_105 ?_
        refine g_hp (fun h25 eh25 => ?_)
        have hf := zlet_n eh25 hf
        obtain ⟨y26, ey26⟩ : ∃ y : Int32, y = x5_6 + (1 : Int32) := ⟨_, rfl⟩
        have hf := zlet_n ey26 hf
        refine g_iinc X (j := 4) [(5, .int y26), (0, .ref (base + r0)), (1, .int x1), (2, .int x2), (4, .int y8), (7, .int y4), (9, .int y13)] dX3_arrange_106 rfl (by rw [ey26]; rfl) (by decide) rfl ?_
        refine g_goto X 6 dX3_arrange_109 (by decide) ?_
        cases hf
        exact g_sub [1, 2, 3, 4, 0] rfl (hc0 rfl)
  · obtain ⟨ee, x4_k6, x5_k6, h_k6⟩ := qq
    have hf : kX3_arrange_6 h ee x4_k6 x5_k6 h_k6 = some hE := hf
    unfold kX3_arrange_6 at hf
    show zG p l e { frames := 1, cells := 0, slots := 0, locals := 24 } s m args below meth c (MQ below (zQ D cA base h hE none) args s 0 0 (zA base)) 11 D cA base h 112 [] [] h_k6
    cases hf
    exact g_vret X hr dX3_arrange_112

set_option maxHeartbeats 4000000 in
set_option maxRecDepth 100000 in
theorem sX3_rowTelling {l : Launch} {D : va_G} {cA : Nat → ClassId} {base : Nat} {sA : Nat → Nat} {r0 : Nat} {r1 : Nat} {x2 : Int32} {h hE : Zh} {rE : Int32} (hf : fX3_rowTelling r0 r1 x2 h = some (rE, hE)) : zC l yX3_rowTelling cX3_rowTelling 4 (some .int) 2 54 D cA base sA [.ref (base + r0), .ref (base + r1), .int x2] h (some (.int rE)) hE := by
  refine g_entry RX3 (by decide) rfl (Nat.le_of_ble_eq_true rfl) ?_
  intro p e s m args below meth c X hr
  unfold fX3_rowTelling at hf
  have hf := zlet_n (x := h) rfl hf
  show zG p l e { frames := 2, cells := 0, slots := 0, locals := 54 } s m args below meth c (MQ below (zQ D cA base h hE (some (.int rE))) args s 0 0 (zA base)) 4 D cA base h 0 [(0, .ref (base + r0)), (1, .ref (base + r1)), (2, .int x2)] [] h
  refine g_iload_n X 2 dX3_rowTelling_0 rfl ?_
  refine g_istore_n X [(3, .int x2), (0, .ref (base + r0)), (1, .ref (base + r1)), (2, .int x2)] dX3_rowTelling_1 (by decide) rfl ?_
  refine g_aload_n X 2 dX3_rowTelling_2 rfl ?_
  obtain ⟨hk1, hf⟩ := zite hf
  obtain ⟨v3, h2, hch2, hf⟩ := zc2_e hf
  refine g_callV X 0 (sX0_anyOrder hch2) zf0 hk1 ydX0_anyOrder w_ml_RX3_79 w_instanceMethod_X0_anyOrder w_sel_X0_anyOrder w_ini_RX0 w_code_X0_anyOrder (by decide) rfl (st := []) rfl rfl (Nat.le_of_ble_eq_true rfl) dX3_rowTelling_3 ?_
  have hJ31 : ∀ (x3_31 : Int32) (h_31 : Zh), jX3_rowTelling_31 h r0 r1 x3_31 h_31 = some (rE, hE) → zG p l e { frames := 2, cells := 0, slots := 0, locals := 54 } s m args below meth c (MQ below (zQ D cA base h hE (some (.int rE))) args s 0 0 (zA base)) 4 D cA base h 31 [(0, .ref (base + r0)), (1, .ref (base + r1)), (3, .int x3_31)] [] h_31 := by
    intro x3_31 h_31 hf
    unfold jX3_rowTelling_31 at hf
    refine g_aload_n X 1 dX3_rowTelling_31 rfl ?_
    refine g_aload_n X 0 dX3_rowTelling_32 rfl ?_
    obtain ⟨hk4, hf⟩ := zite hf
    obtain ⟨r_5, hr_5, hf⟩ := zbd hf
    refine g_get X zf3 hk4 1 (by decide) w_f_RX3_15 rfl (zfv_r hr_5 rfl) dX3_rowTelling_33 ?_
    refine g_aload_n X 1 dX3_rowTelling_36 rfl ?_
    refine g_get X zf0 hk1 5 (by decide) w_f_RX3_83 rfl rfl dX3_rowTelling_37 ?_
    obtain ⟨v7, h6, hch6, hf⟩ := zc2_e hf
    refine g_callV X 2 (sX0_rowNumber hch6) zf0 hk1 ydX0_rowNumber w_ml_RX3_93 w_instanceMethod_X0_rowNumber w_sel_X0_rowNumber w_ini_RX0 w_code_X0_rowNumber (by decide) rfl (st := []) rfl rfl (Nat.le_of_ble_eq_true rfl) dX3_rowTelling_40 ?_
    refine g_aload_n X 1 dX3_rowTelling_43 rfl ?_
    refine g_get X zf0 hk1 12 (by decide) w_f_RX3_97 rfl rfl dX3_rowTelling_44 ?_
    refine g_imul X dX3_rowTelling_47 ?_
    refine g_iload_n X 2 dX3_rowTelling_48 rfl ?_
    refine g_aload_n X 1 dX3_rowTelling_49 rfl ?_
    refine g_get X zf0 hk1 12 (by decide) w_f_RX3_97 rfl rfl dX3_rowTelling_50 ?_
    obtain ⟨hn8, hf⟩ := zite hf
    refine g_irem X hn8 dX3_rowTelling_53 ?_
    refine g_iadd X dX3_rowTelling_54 ?_
    obtain ⟨rfl, rfl⟩ := zsm hf
    exact g_iret X hr dX3_rowTelling_55
  refine g_if_eq X 31 dX3_rowTelling_6 (by decide) (fun hq => ?_) (fun hq => ?_)
  · have hf := zpos hq hf
    refine g_sub [1, 2, 0] rfl ?_
    exact hJ31 _ _ hf
  · have hf := zneg hq hf
    refine g_aload_n X 1 dX3_rowTelling_9 rfl ?_
    refine g_iconst X (v := 0) dX3_rowTelling_10 (by decide) ?_
    refine g_aload_n X 2 dX3_rowTelling_11 rfl ?_
    refine g_get X zf0 hk1 5 (by decide) w_f_RX3_83 rfl rfl dX3_rowTelling_12 ?_
    refine g_iload_n X 3 dX3_rowTelling_15 rfl ?_
    refine g_aload_n X 2 dX3_rowTelling_16 rfl ?_
    refine g_get X zf0 hk1 11 (by decide) w_f_RX3_86 rfl rfl dX3_rowTelling_17 ?_
    obtain ⟨hn9, hf⟩ := zite hf
    refine g_irem X hn9 dX3_rowTelling_20 ?_
    obtain ⟨hk10, hf⟩ := zite hf
    obtain ⟨h11, hch11, hf⟩ := zbd hf
    refine g_callV X 3 (sX3_arrange hch11) zf3 hk10 ydX3_arrange w_ml_RX3_89 w_instanceMethod_X3_arrange w_sel_X3_arrange w_ini_RX3 w_code_X3_arrange (by decide) rfl (st := []) rfl rfl (Nat.le_of_ble_eq_true rfl) dX3_rowTelling_21 ?_
    refine g_iload_n X 3 dX3_rowTelling_24 rfl ?_
    refine g_aload_n X 2 dX3_rowTelling_25 rfl ?_
    refine g_get X zf0 hk1 11 (by decide) w_f_RX3_86 rfl rfl dX3_rowTelling_26 ?_
    obtain ⟨hn12, hf⟩ := zite hf
    refine g_idiv X hn12 dX3_rowTelling_29 ?_
    refine g_topi (fun y13 ey13 => ?_)
    have hf := zlet_n ey13 hf
    refine g_istore_n X [(3, .int y13), (0, .ref (base + r0)), (1, .ref (base + r1)), (2, .int x2)] dX3_rowTelling_30 (by decide) rfl ?_
    refine g_sub [1, 2, 0] rfl ?_
    exact hJ31 _ _ hf

set_option maxHeartbeats 4000000 in
set_option maxRecDepth 100000 in
theorem sX3_byWords {l : Launch} {D : va_G} {cA : Nat → ClassId} {base : Nat} {sA : Nat → Nat} {r0 : Nat} {r1 : Nat} {x2 : Int32} {x3 : Int32} {h hE : Zh} {rE : Int32} (hf : fX3_byWords r0 r1 x2 x3 h = some (rE, hE)) : zC l yX3_byWords cX3_byWords 12 (some .int) 3 77 D cA base sA [.ref (base + r0), .ref (base + r1), .int x2, .int x3] h (some (.int rE)) hE := by
  refine g_entry RX3 (by decide) rfl (Nat.le_of_ble_eq_true rfl) ?_
  intro p e s m args below meth c X hr
  unfold fX3_byWords at hf
  have hf := zlet_n (x := h) rfl hf
  show zG p l e { frames := 3, cells := 0, slots := 0, locals := 77 } s m args below meth c (MQ below (zQ D cA base h hE (some (.int rE))) args s 0 0 (zA base)) 12 D cA base h 0 [(0, .ref (base + r0)), (1, .ref (base + r1)), (2, .int x2), (3, .int x3)] [] h
  refine g_aload_n X 0 dX3_byWords_0 rfl ?_
  refine g_aload_n X 1 dX3_byWords_1 rfl ?_
  refine g_iload_n X 2 dX3_byWords_2 rfl ?_
  obtain ⟨hk1, hf⟩ := zite hf
  obtain ⟨h2, hch2, hf⟩ := zbd hf
  refine g_callV X 2 (sX3_sortHand hch2) zf3 hk1 ydX3_sortHand w_ml_RX3_18 w_instanceMethod_X3_sortHand w_sel_X3_sortHand w_ini_RX3 w_code_X3_sortHand (by decide) rfl (st := []) rfl rfl (Nat.le_of_ble_eq_true rfl) dX3_byWords_3 ?_
  refine g_aload_n X 0 dX3_byWords_6 rfl ?_
  refine g_aload_n X 1 dX3_byWords_7 rfl ?_
  refine g_iload_n X 3 dX3_byWords_8 rfl ?_
  refine g_iconst X (v := 5) dX3_byWords_9 (by decide) ?_
  obtain ⟨hn3, hf⟩ := zite hf
  refine g_idiv X hn3 dX3_byWords_10 ?_
  obtain ⟨v5, h4, hch4, hf⟩ := zc2_e hf
  refine g_callV X 2 (sX3_keepPlace hch4) zf3 hk1 ydX3_keepPlace w_ml_RX3_22 w_instanceMethod_X3_keepPlace w_sel_X3_keepPlace w_ini_RX3 w_code_X3_keepPlace (by decide) rfl (st := []) rfl rfl (Nat.le_of_ble_eq_true rfl) dX3_byWords_11 ?_
  refine g_istore X [(4, .int v5), (0, .ref (base + r0)), (1, .ref (base + r1)), (2, .int x2), (3, .int x3)] dX3_byWords_14 (by decide) rfl ?_
  refine g_aload_n X 2 dX3_byWords_16 rfl ?_
  obtain ⟨hk6, hf⟩ := zite hf
  refine g_get X zf0 hk6 4 (by decide) w_f_RX3_26 rfl rfl dX3_byWords_17 ?_
  refine g_iconst X (v := 2) dX3_byWords_20 (by decide) ?_
  have hJ38 : ∀ (x4_38 : Int32) (t0_38 : Int32) (h_38 : Zh), jX3_byWords_38 h r0 r1 x2 x3 x4_38 t0_38 h_38 = some (rE, hE) → zG p l e { frames := 3, cells := 0, slots := 0, locals := 77 } s m args below meth c (MQ below (zQ D cA base h hE (some (.int rE))) args s 0 0 (zA base)) 12 D cA base h 38 [(0, .ref (base + r0)), (1, .ref (base + r1)), (2, .int x2), (3, .int x3), (4, .int x4_38)] [.int t0_38] h_38 := by
    intro x4_38 t0_38 h_38 hf
    unfold jX3_byWords_38 at hf
    refine g_istore X [(5, .int t0_38), (0, .ref (base + r0)), (1, .ref (base + r1)), (2, .int x2), (3, .int x3), (4, .int x4_38)] dX3_byWords_38 (by decide) rfl ?_
    refine g_aload_n X 1 dX3_byWords_40 rfl ?_
    obtain ⟨r_7, hr_7, hf⟩ := zbd hf
    refine g_get X zf3 hk1 0 (by decide) w_f_RX3_9 rfl (zfv_r hr_7 rfl) dX3_byWords_41 ?_
    refine g_iload X 5 dX3_byWords_44 rfl ?_
    obtain ⟨hk8, hf⟩ := zite hf
    obtain ⟨hi9, hf⟩ := zite hf
    refine g_iald X hk8 hi9 dX3_byWords_46 ?_
    refine g_aload_n X 1 dX3_byWords_47 rfl ?_
    obtain ⟨r_10, hr_10, hf⟩ := zbd hf
    refine g_get X zf3 hk1 0 (by decide) w_f_RX3_9 rfl (zfv_r hr_10 rfl) dX3_byWords_48 ?_
    refine g_iload X 0 dX3_byWords_51 rfl ?_
    obtain ⟨hk11, hf⟩ := zite hf
    obtain ⟨hi12, hf⟩ := zite hf
    refine g_iald X hk11 hi12 dX3_byWords_53 ?_
    refine g_mmin X w_m1_RX3_35 w_m2_mmin w_m3 w_m4_mmin (Nat.le_of_ble_eq_true rfl) (Nat.le_of_ble_eq_true rfl) dX3_byWords_54 ?_
    refine g_topi (fun y13 ey13 => ?_)
    have hf := zlet_n ey13 hf
    refine g_istore X [(6, .int y13), (5, .int t0_38), (0, .ref (base + r0)), (1, .ref (base + r1)), (2, .int x2), (3, .int x3), (4, .int x4_38)] dX3_byWords_57 (by decide) rfl ?_
    refine g_aload_n X 2 dX3_byWords_59 rfl ?_
    obtain ⟨r_14, hr_14, hf⟩ := zbd hf
    refine g_get X zf3 hk1 0 (by decide) w_f_RX3_9 rfl (zfv_r hr_14 rfl) dX3_byWords_60 ?_
    refine g_iload X 6 dX3_byWords_63 rfl ?_
    obtain ⟨hk15, hf⟩ := zite hf
    obtain ⟨hi16, hf⟩ := zite hf
    refine g_iald X hk15 hi16 dX3_byWords_65 ?_
    refine g_aload_n X 2 dX3_byWords_66 rfl ?_
    obtain ⟨r_17, hr_17, hf⟩ := zbd hf
    refine g_get X zf3 hk1 0 (by decide) w_f_RX3_9 rfl (zfv_r hr_17 rfl) dX3_byWords_67 ?_
    refine g_iload X 1 dX3_byWords_70 rfl ?_
    obtain ⟨hk18, hf⟩ := zite hf
    obtain ⟨hi19, hf⟩ := zite hf
    refine g_iald X hk18 hi19 dX3_byWords_72 ?_
    refine g_mmax X w_m1_RX3_41 w_m2_mmax w_m3 w_m4_mmax (Nat.le_of_ble_eq_true rfl) (Nat.le_of_ble_eq_true rfl) dX3_byWords_73 ?_
    refine g_topi (fun y20 ey20 => ?_)
    have hf := zlet_n ey20 hf
    refine g_istore X [(7, .int y20), (6, .int y13), (5, .int t0_38), (0, .ref (base + r0)), (1, .ref (base + r1)), (2, .int x2), (3, .int x3), (4, .int x4_38)] dX3_byWords_76 (by decide) rfl ?_
    refine g_aload_n X 3 dX3_byWords_78 rfl ?_
    refine g_aload_n X 4 dX3_byWords_79 rfl ?_
    refine g_iload_n X 5 dX3_byWords_80 rfl ?_
    refine g_iconst X (v := 1) dX3_byWords_81 (by decide) ?_
    refine g_iload X 1 dX3_byWords_82 rfl ?_
    refine g_ishl X dX3_byWords_84 ?_
    refine g_iconst X (v := 1) dX3_byWords_85 (by decide) ?_
    refine g_iload X 0 dX3_byWords_86 rfl ?_
    refine g_ishl X dX3_byWords_88 ?_
    refine g_ior X dX3_byWords_89 ?_
    obtain ⟨v22, h21, hch21, hf⟩ := zc2_e hf
    refine g_callV X 3 (sX3_showOthers hch21) zf3 hk1 ydX3_showOthers w_ml_RX3_44 w_instanceMethod_X3_showOthers w_sel_X3_showOthers w_ini_RX3 w_code_X3_showOthers (by decide) rfl (st := []) rfl rfl (Nat.le_of_ble_eq_true rfl) dX3_byWords_90 ?_
    refine g_istore X [(8, .int v22), (7, .int y20), (6, .int y13), (5, .int t0_38), (0, .ref (base + r0)), (1, .ref (base + r1)), (2, .int x2), (3, .int x3), (4, .int x4_38)] dX3_byWords_93 (by decide) rfl ?_
    refine g_iload_n X 7 dX3_byWords_95 rfl ?_
    refine g_iconst X (v := 5) dX3_byWords_96 (by decide) ?_
    obtain ⟨hn23, hf⟩ := zite hf
    refine g_irem X hn23 dX3_byWords_97 ?_
    refine g_topi (fun y24 ey24 => ?_)
    have hf := zlet_n ey24 hf
    refine g_istore X [(9, .int y24), (8, .int v22), (7, .int y20), (6, .int y13), (5, .int t0_38), (0, .ref (base + r0)), (1, .ref (base + r1)), (2, .int x2), (3, .int x3), (4, .int x4_38)] dX3_byWords_98 (by decide) rfl ?_
    refine g_aload_n X 6 dX3_byWords_100 rfl ?_
    refine g_get X zf0 hk6 4 (by decide) w_f_RX3_26 rfl rfl dX3_byWords_101 ?_
    refine g_iconst X (v := 1) dX3_byWords_104 (by decide) ?_
    refine g_icmp_ne X 127 dX3_byWords_105 (by decide) (fun hq => ?_) (fun hq => ?_)
    · have hf := zneg hq hf
      refine g_iload X 3 dX3_byWords_127 rfl ?_
      refine g_iload X 2 dX3_byWords_129 rfl ?_
      refine g_iadd X dX3_byWords_131 ?_
      refine g_topi (fun y25 ey25 => ?_)
      have hf := zlet_n ey25 hf
      refine g_istore X [(10, .int y25), (9, .int y24), (8, .int v22), (7, .int y20), (6, .int y13), (5, .int t0_38), (0, .ref (base + r0)), (1, .ref (base + r1)), (2, .int x2), (3, .int x3), (4, .int x4_38)] dX3_byWords_132 (by decide) rfl ?_
      refine g_aload_n X 6 dX3_byWords_134 rfl ?_
      refine g_aload_n X 7 dX3_byWords_135 rfl ?_
      refine g_iload X 1 dX3_byWords_136 rfl ?_
      refine g_iload X 4 dX3_byWords_138 rfl ?_
      refine g_iload X 2 dX3_byWords_140 rfl ?_
      refine g_iload X 0 dX3_byWords_142 rfl ?_
      obtain ⟨v27, h26, hch26, hf⟩ := zc2_e hf
      refine g_callV X 5 (sX3_tellOf hch26) zf3 hk1 ydX3_tellOf w_ml_RX3_48 w_instanceMethod_X3_tellOf w_sel_X3_tellOf w_ini_RX3 w_code_X3_tellOf (by decide) rfl (st := []) rfl rfl (Nat.le_of_ble_eq_true rfl) dX3_byWords_144 ?_
      refine g_aload_n X 7 dX3_byWords_147 rfl ?_
      refine g_get X zf0 hk6 0 (by decide) w_f_RX3_55 rfl rfl dX3_byWords_148 ?_
      refine g_imul X dX3_byWords_151 ?_
      refine g_aload_n X 6 dX3_byWords_152 rfl ?_
      refine g_aload_n X 7 dX3_byWords_153 rfl ?_
      refine g_iload X 1 dX3_byWords_154 rfl ?_
      refine g_iload X 3 dX3_byWords_156 rfl ?_
      refine g_iload X 2 dX3_byWords_158 rfl ?_
      refine g_iload X 0 dX3_byWords_160 rfl ?_
      obtain ⟨v29, h28, hch28, hf⟩ := zc2_e hf
      refine g_callV X 5 (sX3_tellOf hch28) zf3 hk1 ydX3_tellOf w_ml_RX3_48 w_instanceMethod_X3_tellOf w_sel_X3_tellOf w_ini_RX3 w_code_X3_tellOf (by decide) rfl (st := [.int (v27 * (zI h26 r1 0))]) rfl rfl (Nat.le_of_ble_eq_true rfl) dX3_byWords_162 ?_
      refine g_iadd X dX3_byWords_165 ?_
      refine g_topi (fun y30 ey30 => ?_)
      have hf := zlet_n ey30 hf
      refine g_istore X [(11, .int y30), (10, .int y25), (9, .int y24), (8, .int v22), (7, .int y20), (6, .int y13), (5, .int t0_38), (0, .ref (base + r0)), (1, .ref (base + r1)), (2, .int x2), (3, .int x3), (4, .int x4_38)] dX3_byWords_166 (by decide) rfl ?_
      refine g_aload_n X 7 dX3_byWords_168 rfl ?_
      refine g_aload_n X 8 dX3_byWords_169 rfl ?_
      refine g_iload X 0 dX3_byWords_170 rfl ?_
      obtain ⟨v32, h31, hch31, hf⟩ := zc2_e hf
      refine g_callV X 2 (sX3_rowTelling hch31) zf3 hk1 ydX3_rowTelling w_ml_RX3_52 w_instanceMethod_X3_rowTelling w_sel_X3_rowTelling w_ini_RX3 w_code_X3_rowTelling (by decide) rfl (st := []) rfl rfl (Nat.le_of_ble_eq_true rfl) dX3_byWords_172 ?_
      obtain ⟨rfl, rfl⟩ := zsm hf
      exact g_iret X hr dX3_byWords_175
    · have hf := zpos hq hf
      refine g_aload_n X 5 dX3_byWords_108 rfl ?_
      refine g_aload_n X 6 dX3_byWords_109 rfl ?_
      refine g_aload_n X 5 dX3_byWords_110 rfl ?_
      refine g_aload_n X 6 dX3_byWords_111 rfl ?_
      refine g_iload X 0 dX3_byWords_112 rfl ?_
      refine g_iload X 3 dX3_byWords_114 rfl ?_
      refine g_iload X 1 dX3_byWords_116 rfl ?_
      refine g_iload X 3 dX3_byWords_118 rfl ?_
      obtain ⟨v34, h33, hch33, hf⟩ := zc2_e hf
      refine g_callV X 5 (sX3_tellOf hch33) zf3 hk1 ydX3_tellOf w_ml_RX3_48 w_instanceMethod_X3_tellOf w_sel_X3_tellOf w_ini_RX3 w_code_X3_tellOf (by decide) rfl (st := [.ref (base + r1), .ref (base + r0)]) rfl rfl (Nat.le_of_ble_eq_true rfl) dX3_byWords_120 ?_
      obtain ⟨v36, h35, hch35, hf⟩ := zc2_e hf
      refine g_callV X 2 (sX3_rowTelling hch35) zf3 hk1 ydX3_rowTelling w_ml_RX3_52 w_instanceMethod_X3_rowTelling w_sel_X3_rowTelling w_ini_RX3 w_code_X3_rowTelling (by decide) rfl (st := []) rfl rfl (Nat.le_of_ble_eq_true rfl) dX3_byWords_123 ?_
      obtain ⟨rfl, rfl⟩ := zsm hf
      exact g_iret X hr dX3_byWords_126
  refine g_icmp_ne X 36 dX3_byWords_21 (by decide) (fun hq => ?_) (fun hq => ?_)
  · have hf := zneg hq hf
    refine g_iload X 0 dX3_byWords_36 rfl ?_
    refine g_sub [1, 2, 3, 4, 0] rfl ?_
    exact hJ38 _ _ _ hf
  · have hf := zpos hq hf
    refine g_iload X 0 dX3_byWords_24 rfl ?_
    refine g_iconst X (v := 1) dX3_byWords_26 (by decide) ?_
    refine g_iadd X dX3_byWords_27 ?_
    refine g_aload_n X 2 dX3_byWords_28 rfl ?_
    refine g_get X zf0 hk6 3 (by decide) w_f_RX3_32 rfl rfl dX3_byWords_29 ?_
    obtain ⟨hn37, hf⟩ := zite hf
    refine g_irem X hn37 dX3_byWords_32 ?_
    refine g_goto X 38 dX3_byWords_33 (by decide) ?_
    refine g_sub [1, 2, 3, 4, 0] rfl ?_
    exact hJ38 _ _ _ hf

set_option maxHeartbeats 4000000 in
set_option maxRecDepth 100000 in
theorem sX3_rowOfTwo {l : Launch} {D : va_G} {cA : Nat → ClassId} {base : Nat} {sA : Nat → Nat} {r0 : Nat} {r1 : Nat} {x2 : Int32} {x3 : Int32} {h hE : Zh} {rE : Int32} (hf : fX3_rowOfTwo r0 r1 x2 x3 h = some (rE, hE)) : zC l yX3_rowOfTwo cX3_rowOfTwo 10 (some .int) 2 54 D cA base sA [.ref (base + r0), .ref (base + r1), .int x2, .int x3] h (some (.int rE)) hE := by
  refine g_entry RX3 (by decide) rfl (Nat.le_of_ble_eq_true rfl) ?_
  intro p e s m args below meth c X hr
  unfold fX3_rowOfTwo at hf
  have hf := zlet_n (x := h) rfl hf
  show zG p l e { frames := 2, cells := 0, slots := 0, locals := 54 } s m args below meth c (MQ below (zQ D cA base h hE (some (.int rE))) args s 0 0 (zA base)) 10 D cA base h 0 [(0, .ref (base + r0)), (1, .ref (base + r1)), (2, .int x2), (3, .int x3)] [] h
  refine g_iload_n X 3 dX3_rowOfTwo_0 rfl ?_
  refine g_iload_n X 2 dX3_rowOfTwo_1 rfl ?_
  refine g_isub X dX3_rowOfTwo_2 ?_
  refine g_topi (fun y1 ey1 => ?_)
  have hf := zlet_n ey1 hf
  refine g_istore X [(4, .int y1), (0, .ref (base + r0)), (1, .ref (base + r1)), (2, .int x2), (3, .int x3)] dX3_rowOfTwo_3 (by decide) rfl ?_
  refine g_iconst X (v := 2) dX3_rowOfTwo_5 (by decide) ?_
  refine g_iload X 0 dX3_rowOfTwo_6 rfl ?_
  refine g_imul X dX3_rowOfTwo_8 ?_
  refine g_aload_n X 2 dX3_rowOfTwo_9 rfl ?_
  obtain ⟨hk2, hf⟩ := zite hf
  refine g_get X zf0 hk2 2 (by decide) w_f_RX3_69 rfl rfl dX3_rowOfTwo_10 ?_
  have hJ21 : ∀ (x4_21 : Int32) (t0_21 : Int32) (h_21 : Zh), jX3_rowOfTwo_21 h r0 r1 x2 x3 x4_21 t0_21 h_21 = some (rE, hE) → zG p l e { frames := 2, cells := 0, slots := 0, locals := 54 } s m args below meth c (MQ below (zQ D cA base h hE (some (.int rE))) args s 0 0 (zA base)) 10 D cA base h 21 [(0, .ref (base + r0)), (1, .ref (base + r1)), (2, .int x2), (3, .int x3), (4, .int x4_21)] [.int t0_21] h_21 := by
    intro x4_21 t0_21 h_21 hf
    unfold jX3_rowOfTwo_21 at hf
    refine g_istore X [(5, .int t0_21), (0, .ref (base + r0)), (1, .ref (base + r1)), (2, .int x2), (3, .int x3), (4, .int x4_21)] dX3_rowOfTwo_21 (by decide) rfl ?_
    refine g_iload X 0 dX3_rowOfTwo_23 rfl ?_
    have hJ40 : ∀ (x5_40 : Int32) (t0_40 : Int32) (h_40 : Zh), jX3_rowOfTwo_40 h r0 r1 x2 x3 x5_40 t0_40 h_40 = some (rE, hE) → zG p l e { frames := 2, cells := 0, slots := 0, locals := 54 } s m args below meth c (MQ below (zQ D cA base h hE (some (.int rE))) args s 0 0 (zA base)) 10 D cA base h 40 [(0, .ref (base + r0)), (1, .ref (base + r1)), (2, .int x2), (3, .int x3), (5, .int x5_40)] [.int t0_40] h_40 := by
      intro x5_40 t0_40 h_40 hf
      unfold jX3_rowOfTwo_40 at hf
      refine g_iconst X (v := 1) dX3_rowOfTwo_40 (by decide) ?_
      refine g_isub X dX3_rowOfTwo_41 ?_
      refine g_topi (fun y3 ey3 => ?_)
      have hf := zlet_n ey3 hf
      refine g_istore X [(6, .int y3), (0, .ref (base + r0)), (1, .ref (base + r1)), (2, .int x2), (3, .int x3), (5, .int x5_40)] dX3_rowOfTwo_42 (by decide) rfl ?_
      refine g_aload_n X 2 dX3_rowOfTwo_44 rfl ?_
      refine g_get X zf0 hk2 5 (by decide) w_f_RX3_83 rfl rfl dX3_rowOfTwo_45 ?_
      refine g_iconst X (v := 1) dX3_rowOfTwo_48 (by decide) ?_
      refine g_isub X dX3_rowOfTwo_49 ?_
      refine g_topi (fun y4 ey4 => ?_)
      have hf := zlet_n ey4 hf
      refine g_istore X [(7, .int y4), (6, .int y3), (0, .ref (base + r0)), (1, .ref (base + r1)), (2, .int x2), (3, .int x3), (5, .int x5_40)] dX3_rowOfTwo_50 (by decide) rfl ?_
      refine g_iload X 1 dX3_rowOfTwo_52 rfl ?_
      refine g_i2l X dX3_rowOfTwo_54 ?_
      refine g_iload X 0 dX3_rowOfTwo_55 rfl ?_
      refine g_iload X 0 dX3_rowOfTwo_57 rfl ?_
      obtain ⟨v6, h5, hch5, hf⟩ := zc2_e hf
      refine g_callS X 2 (sX0_falling hch5) ysX0_falling w_ml_RX3_100 w_static_X0_falling w_ini_RX0 w_code_X0_falling (by decide) rfl (st := [.long y3.toInt64]) rfl rfl (Nat.le_of_ble_eq_true rfl) dX3_rowOfTwo_59 ?_
      refine g_lcmp X dX3_rowOfTwo_62 ?_
      refine g_if_lt X 69 dX3_rowOfTwo_63 (by decide) (fun hq => ?_) (fun hq => ?_)
      · have hf := zpos hq hf
        refine g_aload_n X 2 dX3_rowOfTwo_69 rfl ?_
        obtain ⟨hk7, hf⟩ := zite hf
        obtain ⟨r_8, hr_8, hf⟩ := zbd hf
        refine g_get X zf3 hk7 1 (by decide) w_f_RX3_15 rfl (zfv_r hr_8 rfl) dX3_rowOfTwo_70 ?_
        refine g_iconst X (v := 0) dX3_rowOfTwo_73 (by decide) ?_
        refine g_iload X 6 dX3_rowOfTwo_74 rfl ?_
        have hJ84 : ∀ (x6_84 : Int32) (x7_84 : Int32) (t0_84 : Int32) (t1_84 : Int32) (t2_84 : Nat) (h_84 : Zh), jX3_rowOfTwo_84 h r0 r1 x2 x3 x6_84 x7_84 t0_84 t1_84 t2_84 h_84 = some (rE, hE) → zG p l e { frames := 2, cells := 0, slots := 0, locals := 54 } s m args below meth c (MQ below (zQ D cA base h hE (some (.int rE))) args s 0 0 (zA base)) 10 D cA base h 84 [(0, .ref (base + r0)), (1, .ref (base + r1)), (2, .int x2), (3, .int x3), (6, .int x6_84), (7, .int x7_84)] [.int t0_84, .int t1_84, .ref (base + t2_84)] h_84 := by
          intro x6_84 x7_84 t0_84 t1_84 t2_84 h_84 hf
          unfold jX3_rowOfTwo_84 at hf
          obtain ⟨hk9, hf⟩ := zite hf
          obtain ⟨hi10, hf⟩ := zite hf
          refine g_iast X hk9 hi10 dX3_rowOfTwo_84 ?_
          refine g_hp (fun h11 eh11 => ?_)
          have hf := zlet_n eh11 hf
          refine g_iconst X (v := 1) dX3_rowOfTwo_85 (by decide) ?_
          refine g_istore X [(8, .int ((1 : Int32))), (0, .ref (base + r0)), (1, .ref (base + r1)), (2, .int x2), (3, .int x3), (6, .int x6_84), (7, .int x7_84)] dX3_rowOfTwo_86 (by decide) rfl ?_
          refine g_iconst X (v := 0) dX3_rowOfTwo_88 (by decide) ?_
          refine g_istore X [(9, .int ((0 : Int32))), (8, .int ((1 : Int32))), (0, .ref (base + r0)), (1, .ref (base + r1)), (2, .int x2), (3, .int x3), (6, .int x6_84), (7, .int x7_84)] dX3_rowOfTwo_89 (by decide) rfl ?_
          refine g_sub [2, 3, 4, 5, 6, 7, 1, 0] rfl ?_
          obtain ⟨qq, hlp, hf⟩ := zbd hf
          refine lp_snd (body := (fun q : Int32 × Int32 × Zh => bX3_rowOfTwo_91 h r0 r1 x2 x3 q.1 q.2.1 q.2.2)) (P := (fun q : Int32 × Int32 × Zh => zG p l e { frames := 2, cells := 0, slots := 0, locals := 54 } s m args below meth c (MQ below (zQ D cA base h hE (some (.int rE))) args s 0 0 (zA base)) 10 D cA base h 91 [(0, .ref (base + r0)), (1, .ref (base + r1)), (2, .int x2), (3, .int x3), (6, .int x6_84), (7, .int x7_84), (8, .int q.1), (9, .int q.2.1)] [] q.2.2)) (E := (fun (en : Nat) (q : Int32 × Int32 × Zh) => zG p l e { frames := 2, cells := 0, slots := 0, locals := 54 } s m args below meth c (MQ below (zQ D cA base h hE (some (.int rE))) args s 0 0 (zA base)) 10 D cA base h 145 [(0, .ref (base + r0)), (1, .ref (base + r1)), (6, .int x6_84), (7, .int x7_84)] [] q.2.2)) ?_ zB ((1 : Int32), ((0 : Int32), h11)) qq.1 qq.2 hlp ?_
          · intro q e_91 q_91 hf hc0 hc1
            obtain ⟨x8_91, x9_91, h_91⟩ := q
            have hf : bX3_rowOfTwo_91 h r0 r1 x2 x3 x8_91 x9_91 h_91 = some (e_91, q_91) := hf
            unfold bX3_rowOfTwo_91 at hf
            show zG p l e { frames := 2, cells := 0, slots := 0, locals := 54 } s m args below meth c (MQ below (zQ D cA base h hE (some (.int rE))) args s 0 0 (zA base)) 10 D cA base h 91 [(0, .ref (base + r0)), (1, .ref (base + r1)), (2, .int x2), (3, .int x3), (6, .int x6_84), (7, .int x7_84), (8, .int x8_91), (9, .int x9_91)] [] h_91
            refine g_iload X 7 dX3_rowOfTwo_91 rfl ?_
            refine g_aload_n X 1 dX3_rowOfTwo_93 rfl ?_
            refine g_get X zf0 hk2 3 (by decide) w_f_RX3_32 rfl rfl dX3_rowOfTwo_94 ?_
            refine g_icmp_ge X 145 dX3_rowOfTwo_97 (by decide) (fun hq => ?_) (fun hq => ?_)
            · have hf := zpos hq hf
              cases hf
              have hc1 := hc1 (by decide)
              exact g_sub [0, 1, 4, 5] rfl hc1
            · have hf := zneg hq hf
              refine g_aload_n X 0 dX3_rowOfTwo_100 rfl ?_
              obtain ⟨r_12, hr_12, hf⟩ := zbd hf
              refine g_get X zf3 hk7 0 (by decide) w_f_RX3_9 rfl (zfv_r hr_12 rfl) dX3_rowOfTwo_101 ?_
              refine g_iload X 7 dX3_rowOfTwo_104 rfl ?_
              obtain ⟨hk13, hf⟩ := zite hf
              obtain ⟨hi14, hf⟩ := zite hf
              refine g_iald X hk13 hi14 dX3_rowOfTwo_106 ?_
              refine g_iload_n X 2 dX3_rowOfTwo_107 rfl ?_
              refine g_icmp_eq X 139 dX3_rowOfTwo_108 (by decide) (fun hq => ?_) (fun hq => ?_)
              · have hf := zpos hq hf
                obtain ⟨y15, ey15⟩ : ∃ y : Int32, y = x9_91 + (1 : Int32) := ⟨_, rfl⟩
                have hf := zlet_n ey15 hf
                refine g_iinc X (j := 7) [(9, .int y15), (0, .ref (base + r0)), (1, .ref (base + r1)), (2, .int x2), (3, .int x3), (6, .int x6_84), (7, .int x7_84), (8, .int x8_91)] dX3_rowOfTwo_139 rfl (by rw [ey15]; rfl) (by decide) rfl ?_
                refine g_goto X 91 dX3_rowOfTwo_142 (by decide) ?_
                cases hf
                exact g_sub [1, 2, 3, 4, 5, 6, 7, 0] rfl (hc0 rfl)
              · have hf := zneg hq hf
                refine g_aload_n X 0 dX3_rowOfTwo_111 rfl ?_
                obtain ⟨r_16, hr_16, hf⟩ := zbd hf
                refine g_get X zf3 hk7 0 (by decide) w_f_RX3_9 rfl (zfv_r hr_16 rfl) dX3_rowOfTwo_112 ?_
                refine g_iload X 7 dX3_rowOfTwo_115 rfl ?_
                obtain ⟨hk17, hf⟩ := zite hf
                obtain ⟨hi18, hf⟩ := zite hf
                refine g_iald X hk17 hi18 dX3_rowOfTwo_117 ?_
                refine g_iload_n X 3 dX3_rowOfTwo_118 rfl ?_
                refine g_icmp_eq X 139 dX3_rowOfTwo_119 (by decide) (fun hq => ?_) (fun hq => ?_)
                · have hf := zpos hq hf
                  obtain ⟨y19, ey19⟩ : ∃ y : Int32, y = x9_91 + (1 : Int32) := ⟨_, rfl⟩
                  have hf := zlet_n ey19 hf
                  refine g_iinc X (j := 7) [(9, .int y19), (0, .ref (base + r0)), (1, .ref (base + r1)), (2, .int x2), (3, .int x3), (6, .int x6_84), (7, .int x7_84), (8, .int x8_91)] dX3_rowOfTwo_139 rfl (by rw [ey19]; rfl) (by decide) rfl ?_
                  refine g_goto X 91 dX3_rowOfTwo_142 (by decide) ?_
                  cases hf
                  exact g_sub [1, 2, 3, 4, 5, 6, 7, 0] rfl (hc0 rfl)
                · have hf := zneg hq hf
                  refine g_aload_n X 0 dX3_rowOfTwo_122 rfl ?_
                  obtain ⟨r_20, hr_20, hf⟩ := zbd hf
                  refine g_get X zf3 hk7 1 (by decide) w_f_RX3_15 rfl (zfv_r hr_20 rfl) dX3_rowOfTwo_123 ?_
                  refine g_iload X 6 dX3_rowOfTwo_126 rfl ?_
                  refine g_aload_n X 0 dX3_rowOfTwo_128 rfl ?_
                  obtain ⟨r_21, hr_21, hf⟩ := zbd hf
                  refine g_get X zf3 hk7 0 (by decide) w_f_RX3_9 rfl (zfv_r hr_21 rfl) dX3_rowOfTwo_129 ?_
                  refine g_iload X 7 dX3_rowOfTwo_132 rfl ?_
                  obtain ⟨hk22, hf⟩ := zite hf
                  obtain ⟨hi23, hf⟩ := zite hf
                  refine g_iald X hk22 hi23 dX3_rowOfTwo_134 ?_
                  obtain ⟨hk24, hf⟩ := zite hf
                  obtain ⟨hi25, hf⟩ := zite hf
                  refine g_iast X hk24 hi25 dX3_rowOfTwo_135 ?_
                  refine g_hp (fun h26 eh26 => ?_)
                  have hf := zlet_n eh26 hf
                  obtain ⟨y27, ey27⟩ : ∃ y : Int32, y = x8_91 + (1 : Int32) := ⟨_, rfl⟩
                  have hf := zlet_n ey27 hf
                  refine g_iinc X (j := 6) [(8, .int y27), (0, .ref (base + r0)), (1, .ref (base + r1)), (2, .int x2), (3, .int x3), (6, .int x6_84), (7, .int x7_84), (9, .int x9_91)] dX3_rowOfTwo_136 rfl (by rw [ey27]; rfl) (by decide) rfl ?_
                  obtain ⟨y28, ey28⟩ : ∃ y : Int32, y = x9_91 + (1 : Int32) := ⟨_, rfl⟩
                  have hf := zlet_n ey28 hf
                  refine g_iinc X (j := 7) [(9, .int y28), (8, .int y27), (0, .ref (base + r0)), (1, .ref (base + r1)), (2, .int x2), (3, .int x3), (6, .int x6_84), (7, .int x7_84)] dX3_rowOfTwo_139 rfl (by rw [ey28]; rfl) (by decide) rfl ?_
                  refine g_goto X 91 dX3_rowOfTwo_142 (by decide) ?_
                  cases hf
                  exact g_sub [2, 3, 4, 5, 6, 7, 1, 0] rfl (hc0 rfl)
          · obtain ⟨ee, x8_k91, x9_k91, h_k91⟩ := qq
            have hf : kX3_rowOfTwo_91 h r0 r1 x6_84 x7_84 ee x8_k91 x9_k91 h_k91 = some (rE, hE) := hf
            unfold kX3_rowOfTwo_91 at hf
            show zG p l e { frames := 2, cells := 0, slots := 0, locals := 54 } s m args below meth c (MQ below (zQ D cA base h hE (some (.int rE))) args s 0 0 (zA base)) 10 D cA base h 145 [(0, .ref (base + r0)), (1, .ref (base + r1)), (6, .int x6_84), (7, .int x7_84)] [] h_k91
            refine g_aload_n X 0 dX3_rowOfTwo_145 rfl ?_
            refine g_iconst X (v := 1) dX3_rowOfTwo_146 (by decide) ?_
            refine g_iload X 3 dX3_rowOfTwo_147 rfl ?_
            refine g_iload X 2 dX3_rowOfTwo_149 rfl ?_
            obtain ⟨h29, hch29, hf⟩ := zbd hf
            refine g_callV X 3 (sX3_arrange hch29) zf3 hk7 ydX3_arrange w_ml_RX3_89 w_instanceMethod_X3_arrange w_sel_X3_arrange w_ini_RX3 w_code_X3_arrange (by decide) rfl (st := []) rfl rfl (Nat.le_of_ble_eq_true rfl) dX3_rowOfTwo_151 ?_
            refine g_aload_n X 1 dX3_rowOfTwo_154 rfl ?_
            refine g_aload_n X 0 dX3_rowOfTwo_155 rfl ?_
            obtain ⟨r_30, hr_30, hf⟩ := zbd hf
            refine g_get X zf3 hk7 1 (by decide) w_f_RX3_15 rfl (zfv_r hr_30 rfl) dX3_rowOfTwo_156 ?_
            refine g_aload_n X 1 dX3_rowOfTwo_159 rfl ?_
            refine g_get X zf0 hk2 5 (by decide) w_f_RX3_83 rfl rfl dX3_rowOfTwo_160 ?_
            obtain ⟨v32, h31, hch31, hf⟩ := zc2_e hf
            refine g_callV X 2 (sX0_rowNumber hch31) zf0 hk2 ydX0_rowNumber w_ml_RX3_93 w_instanceMethod_X0_rowNumber w_sel_X0_rowNumber w_ini_RX0 w_code_X0_rowNumber (by decide) rfl (st := []) rfl rfl (Nat.le_of_ble_eq_true rfl) dX3_rowOfTwo_163 ?_
            refine g_aload_n X 1 dX3_rowOfTwo_166 rfl ?_
            refine g_get X zf0 hk2 12 (by decide) w_f_RX3_97 rfl rfl dX3_rowOfTwo_167 ?_
            refine g_imul X dX3_rowOfTwo_170 ?_
            obtain ⟨rfl, rfl⟩ := zsm hf
            exact g_iret X hr dX3_rowOfTwo_171
        refine g_if_eq X 83 dX3_rowOfTwo_76 (by decide) (fun hq => ?_) (fun hq => ?_)
        · have hf := zpos hq hf
          refine g_iload_n X 5 dX3_rowOfTwo_83 rfl ?_
          refine g_sub [2, 3, 4, 5, 1, 0] rfl ?_
          exact hJ84 _ _ _ _ _ _ hf
        · have hf := zneg hq hf
          refine g_iload_n X 4 dX3_rowOfTwo_79 rfl ?_
          refine g_goto X 84 dX3_rowOfTwo_80 (by decide) ?_
          refine g_sub [2, 3, 4, 5, 1, 0] rfl ?_
          exact hJ84 _ _ _ _ _ _ hf
      · have hf := zneg hq hf
        refine g_bipush X (v := -2) dX3_rowOfTwo_66 (by decide) ?_
        obtain ⟨rfl, rfl⟩ := zsm hf
        exact g_iret X hr dX3_rowOfTwo_68
    refine g_if_eq X 33 dX3_rowOfTwo_25 (by decide) (fun hq => ?_) (fun hq => ?_)
    · have hf := zpos hq hf
      refine g_aload_n X 2 dX3_rowOfTwo_33 rfl ?_
      refine g_get X zf0 hk2 2 (by decide) w_f_RX3_69 rfl rfl dX3_rowOfTwo_34 ?_
      refine g_iload X 5 dX3_rowOfTwo_37 rfl ?_
      refine g_isub X dX3_rowOfTwo_39 ?_
      refine g_sub [1, 2, 3, 4, 0] rfl ?_
      exact hJ40 _ _ _ hf
    · have hf := zneg hq hf
      refine g_iload X 5 dX3_rowOfTwo_28 rfl ?_
      refine g_goto X 40 dX3_rowOfTwo_30 (by decide) ?_
      refine g_sub [1, 2, 3, 4, 0] rfl ?_
      exact hJ40 _ _ _ hf
  refine g_icmp_gt X 20 dX3_rowOfTwo_13 (by decide) (fun hq => ?_) (fun hq => ?_)
  · have hf := zpos hq hf
    refine g_iconst X (v := 0) dX3_rowOfTwo_20 (by decide) ?_
    refine g_sub [1, 2, 3, 4, 0] rfl ?_
    exact hJ21 _ _ _ hf
  · have hf := zneg hq hf
    refine g_iconst X (v := 1) dX3_rowOfTwo_16 (by decide) ?_
    refine g_goto X 21 dX3_rowOfTwo_17 (by decide) ?_
    refine g_sub [1, 2, 3, 4, 0] rfl ?_
    exact hJ21 _ _ _ hf

set_option maxHeartbeats 4000000 in
set_option maxRecDepth 100000 in
theorem sX3_bySuit {l : Launch} {D : va_G} {cA : Nat → ClassId} {base : Nat} {sA : Nat → Nat} {r0 : Nat} {r1 : Nat} {x2 : Int32} {h hE : Zh} {rE : Int32} (hf : fX3_bySuit r0 r1 x2 h = some (rE, hE)) : zC l yX3_bySuit cX3_bySuit 5 (some .int) 3 83 D cA base sA [.ref (base + r0), .ref (base + r1), .int x2] h (some (.int rE)) hE := by
  refine g_entry RX3 (by decide) rfl (Nat.le_of_ble_eq_true rfl) ?_
  intro p e s m args below meth c X hr
  unfold fX3_bySuit at hf
  have hf := zlet_n (x := h) rfl hf
  show zG p l e { frames := 3, cells := 0, slots := 0, locals := 83 } s m args below meth c (MQ below (zQ D cA base h hE (some (.int rE))) args s 0 0 (zA base)) 5 D cA base h 0 [(0, .ref (base + r0)), (1, .ref (base + r1)), (2, .int x2)] [] h
  refine g_aload_n X 1 dX3_bySuit_0 rfl ?_
  obtain ⟨hk1, hf⟩ := zite hf
  obtain ⟨v3, h2, hch2, hf⟩ := zc2_e hf
  refine g_callV X 0 (sX0_anyOrder hch2) zf0 hk1 ydX0_anyOrder w_ml_RX3_79 w_instanceMethod_X0_anyOrder w_sel_X0_anyOrder w_ini_RX0 w_code_X0_anyOrder (by decide) rfl (st := []) rfl rfl (Nat.le_of_ble_eq_true rfl) dX3_bySuit_1 ?_
  refine g_if_eq X 15 dX3_bySuit_4 (by decide) (fun hq => ?_) (fun hq => ?_)
  · have hf := zpos hq hf
    refine g_bipush X (v := -2) dX3_bySuit_15 (by decide) ?_
    obtain ⟨rfl, rfl⟩ := zsm hf
    exact g_iret X hr dX3_bySuit_17
  · have hf := zneg hq hf
    refine g_aload_n X 1 dX3_bySuit_7 rfl ?_
    refine g_get X zf0 hk1 4 (by decide) w_f_RX3_26 rfl rfl dX3_bySuit_8 ?_
    refine g_iconst X (v := 1) dX3_bySuit_11 (by decide) ?_
    refine g_icmp_eq X 18 dX3_bySuit_12 (by decide) (fun hq => ?_) (fun hq => ?_)
    · have hf := zpos hq hf
      refine g_aload_n X 0 dX3_bySuit_18 rfl ?_
      refine g_aload_n X 1 dX3_bySuit_19 rfl ?_
      refine g_iload_n X 2 dX3_bySuit_20 rfl ?_
      obtain ⟨hk4, hf⟩ := zite hf
      obtain ⟨h5, hch5, hf⟩ := zbd hf
      refine g_callV X 2 (sX3_sortHand hch5) zf3 hk4 ydX3_sortHand w_ml_RX3_18 w_instanceMethod_X3_sortHand w_sel_X3_sortHand w_ini_RX3 w_code_X3_sortHand (by decide) rfl (st := []) rfl rfl (Nat.le_of_ble_eq_true rfl) dX3_bySuit_21 ?_
      refine g_iconst X (v := 0) dX3_bySuit_24 (by decide) ?_
      refine g_istore_n X [(3, .int ((0 : Int32))), (0, .ref (base + r0)), (1, .ref (base + r1)), (2, .int x2)] dX3_bySuit_25 (by decide) rfl ?_
      refine g_sub [1, 2, 0] rfl ?_
      obtain ⟨qq, hlp, hf⟩ := zbd hf
      refine lp_snd (body := (fun q : Int32 × Int32 × Zh => bX3_bySuit_26 h r0 r1 q.1 q.2.1 q.2.2)) (P := (fun q : Int32 × Int32 × Zh => zG p l e { frames := 3, cells := 0, slots := 0, locals := 83 } s m args below meth c (MQ below (zQ D cA base h hE (some (.int rE))) args s 0 0 (zA base)) 5 D cA base h 26 [(0, .ref (base + r0)), (1, .ref (base + r1)), (3, .int q.1)] [] q.2.2)) (E := (fun (en : Nat) (q : Int32 × Int32 × Zh) => if en = 1 then zG p l e { frames := 3, cells := 0, slots := 0, locals := 83 } s m args below meth c (MQ below (zQ D cA base h hE (some (.int rE))) args s 0 0 (zA base)) 5 D cA base h 74 [(0, .ref (base + r0)), (1, .ref (base + r1)), (3, .int q.1), (4, .int q.2.1)] [] q.2.2 else zG p l e { frames := 3, cells := 0, slots := 0, locals := 83 } s m args below meth c (MQ below (zQ D cA base h hE (some (.int rE))) args s 0 0 (zA base)) 5 D cA base h 105 [] [] q.2.2)) ?_ zB ((0 : Int32), (0, h5)) qq.1 qq.2 hlp ?_
      · intro q e_26 q_26 hf hc0 hc1
        obtain ⟨x3_26, x4_26, h_26⟩ := q
        have hf : bX3_bySuit_26 h r0 r1 x3_26 x4_26 h_26 = some (e_26, q_26) := hf
        unfold bX3_bySuit_26 at hf
        show zG p l e { frames := 3, cells := 0, slots := 0, locals := 83 } s m args below meth c (MQ below (zQ D cA base h hE (some (.int rE))) args s 0 0 (zA base)) 5 D cA base h 26 [(0, .ref (base + r0)), (1, .ref (base + r1)), (3, .int x3_26)] [] h_26
        refine g_iload_n X 2 dX3_bySuit_26 rfl ?_
        refine g_aload_n X 1 dX3_bySuit_27 rfl ?_
        refine g_get X zf0 hk1 3 (by decide) w_f_RX3_32 rfl rfl dX3_bySuit_28 ?_
        refine g_icmp_ge X 105 dX3_bySuit_31 (by decide) (fun hq => ?_) (fun hq => ?_)
        · have hf := zpos hq hf
          cases hf
          have hc1 := hc1 (by decide)
          exact g_sub [] rfl (zun_n (by decide) hc1)
        · have hf := zneg hq hf
          refine g_iload_n X 2 dX3_bySuit_34 rfl ?_
          refine g_iconst X (v := 1) dX3_bySuit_35 (by decide) ?_
          refine g_iadd X dX3_bySuit_36 ?_
          refine g_topi (fun y6 ey6 => ?_)
          have hf := zlet_n ey6 hf
          refine g_istore X [(4, .int y6), (0, .ref (base + r0)), (1, .ref (base + r1)), (3, .int x3_26)] dX3_bySuit_37 (by decide) rfl ?_
          refine g_sub [1, 2, 3, 0] rfl ?_
          obtain ⟨qq, hlp, hf⟩ := zbd hf
          refine lp_snd (body := (fun q : Int32 × Zh => bX3_bySuit_39 h r0 r1 x3_26 q.1 q.2)) (P := (fun q : Int32 × Zh => zG p l e { frames := 3, cells := 0, slots := 0, locals := 83 } s m args below meth c (MQ below (zQ D cA base h hE (some (.int rE))) args s 0 0 (zA base)) 5 D cA base h 39 [(0, .ref (base + r0)), (1, .ref (base + r1)), (3, .int x3_26), (4, .int q.1)] [] q.2)) (E := (fun (en : Nat) (q : Int32 × Zh) => if en = 1 then zG p l e { frames := 3, cells := 0, slots := 0, locals := 83 } s m args below meth c (MQ below (zQ D cA base h hE (some (.int rE))) args s 0 0 (zA base)) 5 D cA base h 74 [(0, .ref (base + r0)), (1, .ref (base + r1)), (3, .int x3_26), (4, .int q.1)] [] q.2 else zG p l e { frames := 3, cells := 0, slots := 0, locals := 83 } s m args below meth c (MQ below (zQ D cA base h hE (some (.int rE))) args s 0 0 (zA base)) 5 D cA base h 99 [(0, .ref (base + r0)), (1, .ref (base + r1)), (3, .int x3_26)] [] q.2)) ?_ zB (y6, h_26) qq.1 qq.2 hlp ?_
          · intro q e_39 q_39 hf hc0 hc1
            obtain ⟨x4_39, h_39⟩ := q
            have hf : bX3_bySuit_39 h r0 r1 x3_26 x4_39 h_39 = some (e_39, q_39) := hf
            unfold bX3_bySuit_39 at hf
            show zG p l e { frames := 3, cells := 0, slots := 0, locals := 83 } s m args below meth c (MQ below (zQ D cA base h hE (some (.int rE))) args s 0 0 (zA base)) 5 D cA base h 39 [(0, .ref (base + r0)), (1, .ref (base + r1)), (3, .int x3_26), (4, .int x4_39)] [] h_39
            refine g_iload X 3 dX3_bySuit_39 rfl ?_
            refine g_aload_n X 1 dX3_bySuit_41 rfl ?_
            refine g_get X zf0 hk1 3 (by decide) w_f_RX3_32 rfl rfl dX3_bySuit_42 ?_
            refine g_icmp_ge X 99 dX3_bySuit_45 (by decide) (fun hq => ?_) (fun hq => ?_)
            · have hf := zpos hq hf
              cases hf
              have hc1 := hc1 (by decide)
              exact g_sub [0, 1, 2] rfl (zun_n (by decide) hc1)
            · have hf := zneg hq hf
              refine g_aload_n X 0 dX3_bySuit_48 rfl ?_
              obtain ⟨r_7, hr_7, hf⟩ := zbd hf
              refine g_get X zf3 hk4 0 (by decide) w_f_RX3_9 rfl (zfv_r hr_7 rfl) dX3_bySuit_49 ?_
              refine g_iload_n X 2 dX3_bySuit_52 rfl ?_
              obtain ⟨hk8, hf⟩ := zite hf
              obtain ⟨hi9, hf⟩ := zite hf
              refine g_iald X hk8 hi9 dX3_bySuit_53 ?_
              refine g_aload_n X 1 dX3_bySuit_54 rfl ?_
              refine g_get X zf0 hk1 2 (by decide) w_f_RX3_69 rfl rfl dX3_bySuit_55 ?_
              obtain ⟨hn10, hf⟩ := zite hf
              refine g_idiv X hn10 dX3_bySuit_58 ?_
              refine g_aload_n X 0 dX3_bySuit_59 rfl ?_
              obtain ⟨r_11, hr_11, hf⟩ := zbd hf
              refine g_get X zf3 hk4 0 (by decide) w_f_RX3_9 rfl (zfv_r hr_11 rfl) dX3_bySuit_60 ?_
              refine g_iload X 3 dX3_bySuit_63 rfl ?_
              obtain ⟨hk12, hf⟩ := zite hf
              obtain ⟨hi13, hf⟩ := zite hf
              refine g_iald X hk12 hi13 dX3_bySuit_65 ?_
              refine g_aload_n X 1 dX3_bySuit_66 rfl ?_
              refine g_get X zf0 hk1 2 (by decide) w_f_RX3_69 rfl rfl dX3_bySuit_67 ?_
              obtain ⟨hn14, hf⟩ := zite hf
              refine g_idiv X hn14 dX3_bySuit_70 ?_
              refine g_icmp_ne X 93 dX3_bySuit_71 (by decide) (fun hq => ?_) (fun hq => ?_)
              · have hf := zneg hq hf
                obtain ⟨y15, ey15⟩ : ∃ y : Int32, y = x4_39 + (1 : Int32) := ⟨_, rfl⟩
                have hf := zlet_n ey15 hf
                refine g_iinc X (j := 3) [(4, .int y15), (0, .ref (base + r0)), (1, .ref (base + r1)), (3, .int x3_26)] dX3_bySuit_93 rfl (by rw [ey15]; rfl) (by decide) rfl ?_
                refine g_goto X 39 dX3_bySuit_96 (by decide) ?_
                cases hf
                exact g_sub [1, 2, 3, 0] rfl (hc0 rfl)
              · have hf := zpos hq hf
                cases hf
                have hc1 := hc1 (by decide)
                exact g_sub [0, 1, 2, 3] rfl (zun_p rfl hc1)
          · obtain ⟨ee, x4_k39, h_k39⟩ := qq
            have hf : kX3_bySuit_39 h r0 r1 x3_26 ee x4_k39 h_k39 = some (e_26, q_26) := hf
            unfold kX3_bySuit_39 at hf
            by_cases hee0 : ee = 1
            · have hf := zpos hee0 hf
              refine zifp hee0 ?_
              show zG p l e { frames := 3, cells := 0, slots := 0, locals := 83 } s m args below meth c (MQ below (zQ D cA base h hE (some (.int rE))) args s 0 0 (zA base)) 5 D cA base h 74 [(0, .ref (base + r0)), (1, .ref (base + r1)), (3, .int x3_26), (4, .int x4_k39)] [] h_k39
              cases hf
              have hc1 := hc1 (by decide)
              exact g_sub [0, 1, 2, 3] rfl (zun_p rfl hc1)
            have hf := zneg hee0 hf
            refine zifn hee0 ?_
            show zG p l e { frames := 3, cells := 0, slots := 0, locals := 83 } s m args below meth c (MQ below (zQ D cA base h hE (some (.int rE))) args s 0 0 (zA base)) 5 D cA base h 99 [(0, .ref (base + r0)), (1, .ref (base + r1)), (3, .int x3_26)] [] h_k39
            obtain ⟨y16, ey16⟩ : ∃ y : Int32, y = x3_26 + (1 : Int32) := ⟨_, rfl⟩
            have hf := zlet_n ey16 hf
            refine g_iinc X (j := 2) [(3, .int y16), (0, .ref (base + r0)), (1, .ref (base + r1))] dX3_bySuit_99 rfl (by rw [ey16]; rfl) (by decide) rfl ?_
            refine g_goto X 26 dX3_bySuit_102 (by decide) ?_
            cases hf
            exact g_sub [1, 2, 0] rfl (hc0 rfl)
      · obtain ⟨ee, x3_k26, x4_k26, h_k26⟩ := qq
        have hf : kX3_bySuit_26 h r0 r1 ee x3_k26 x4_k26 h_k26 = some (rE, hE) := hf
        unfold kX3_bySuit_26 at hf
        by_cases hee0 : ee = 1
        · have hf := zpos hee0 hf
          refine zifp hee0 ?_
          show zG p l e { frames := 3, cells := 0, slots := 0, locals := 83 } s m args below meth c (MQ below (zQ D cA base h hE (some (.int rE))) args s 0 0 (zA base)) 5 D cA base h 74 [(0, .ref (base + r0)), (1, .ref (base + r1)), (3, .int x3_k26), (4, .int x4_k26)] [] h_k26
          refine g_aload_n X 0 dX3_bySuit_74 rfl ?_
          refine g_aload_n X 1 dX3_bySuit_75 rfl ?_
          refine g_aload_n X 0 dX3_bySuit_76 rfl ?_
          obtain ⟨r_17, hr_17, hf⟩ := zbd hf
          refine g_get X zf3 hk4 0 (by decide) w_f_RX3_9 rfl (zfv_r hr_17 rfl) dX3_bySuit_77 ?_
          refine g_iload_n X 2 dX3_bySuit_80 rfl ?_
          obtain ⟨hk18, hf⟩ := zite hf
          obtain ⟨hi19, hf⟩ := zite hf
          refine g_iald X hk18 hi19 dX3_bySuit_81 ?_
          refine g_aload_n X 0 dX3_bySuit_82 rfl ?_
          obtain ⟨r_20, hr_20, hf⟩ := zbd hf
          refine g_get X zf3 hk4 0 (by decide) w_f_RX3_9 rfl (zfv_r hr_20 rfl) dX3_bySuit_83 ?_
          refine g_iload X 3 dX3_bySuit_86 rfl ?_
          obtain ⟨hk21, hf⟩ := zite hf
          obtain ⟨hi22, hf⟩ := zite hf
          refine g_iald X hk21 hi22 dX3_bySuit_88 ?_
          obtain ⟨v24, h23, hch23, hf⟩ := zc2_e hf
          refine g_callV X 3 (sX3_rowOfTwo hch23) zf3 hk4 ydX3_rowOfTwo w_ml_RX3_104 w_instanceMethod_X3_rowOfTwo w_sel_X3_rowOfTwo w_ini_RX3 w_code_X3_rowOfTwo (by decide) rfl (st := []) rfl rfl (Nat.le_of_ble_eq_true rfl) dX3_bySuit_89 ?_
          obtain ⟨rfl, rfl⟩ := zsm hf
          exact g_iret X hr dX3_bySuit_92
        have hf := zneg hee0 hf
        refine zifn hee0 ?_
        show zG p l e { frames := 3, cells := 0, slots := 0, locals := 83 } s m args below meth c (MQ below (zQ D cA base h hE (some (.int rE))) args s 0 0 (zA base)) 5 D cA base h 105 [] [] h_k26
        refine g_bipush X (v := -2) dX3_bySuit_105 (by decide) ?_
        obtain ⟨rfl, rfl⟩ := zsm hf
        exact g_iret X hr dX3_bySuit_107
    · have hf := zneg hq hf
      refine g_bipush X (v := -2) dX3_bySuit_15 (by decide) ?_
      obtain ⟨rfl, rfl⟩ := zsm hf
      exact g_iret X hr dX3_bySuit_17

