/-! FifthCard RowSet holderOf -/
def fX8_holderOf (r0 : Nat) (x1 : Int32) (h : Zh) : Option (Int32 × Zh) := zlet h fun g =>
  if zK g r0 = 8 then zc2 (fX8_slotOf r0 x1 h) fun v3 h2 => if v3 < 0 then some ((-1 : Int32), h2) else (zR h2 r0 2).bind fun r_4 => if zK g r_4 = 100 then if zin v3 (zL g r_4) then if (zI h2 r_4 v3.toNatClampNeg) = (zI h2 r0 3) then (zR h2 r0 1).bind fun r_7 => if zK g r_7 = 100 then if zin v3 (zL g r_7) then some (zI h2 r_7 v3.toNatClampNeg, h2) else none else none else some ((-1 : Int32), h2) else none else none else none
/-! FifthCard Ledger swapCards -/
def fX4_swapCards (r0 : Nat) (x1 : Int32) (h : Zh) : Option Zh := zlet h fun g =>
  if zK g r0 = 4 then (zR h r0 10).bind fun r_2 => if zK g r_2 = 100 then if zin x1 (zL g r_2) then zlet (zI h r_2 x1.toNatClampNeg) fun y5 => (zR h r0 10).bind fun r_6 => (zR h r0 10).bind fun r_7 => if zK g r_7 = 100 then if zin (x1 + ((1 : Int32))) (zL g r_7) then if zK g r_6 = 100 then if zin x1 (zL g r_6) then zlet (zsI h r_6 x1.toNatClampNeg (zI h r_7 (x1 + ((1 : Int32))).toNatClampNeg)) fun h12 => (zR h12 r0 10).bind fun r_13 => if zK g r_13 = 100 then if zin (x1 + ((1 : Int32))) (zL g r_13) then zlet (zsI h12 r_13 (x1 + ((1 : Int32))).toNatClampNeg y5) fun h16 => some h16 else none else none else none else none else none else none else none else none else none
/-! FifthCard Ledger swapped -/
def fX4_swapped (r0 : Nat) (x1 : Int32) (x2 : Int32) (h : Zh) : Option (Int32 × Zh) := zlet h fun g =>
  zlet (((x1 >>> (x2 &&& 31)) ^^^ (x1 >>> ((x2 + ((1 : Int32))) &&& 31))) &&& ((1 : Int32))) fun y1 => if zK g r0 = 4 then (fX4_swapCards r0 x2 h).bind fun h3 => (zR h3 r0 1).bind fun r_4 => if zK g r_4 = 9 then (zR h3 r_4 1).bind fun r_6 => (zR h3 r0 10).bind fun r_7 => (zR h3 r0 1).bind fun r_8 => if zK g r_8 = 9 then (zR h3 r_8 1).bind fun r_10 => if zK g r_10 = 0 then if zK g r_6 = 0 then zc2 (fX0_rowNumber r_6 r_7 (zI h3 r_10 5) h3) fun v14 h13 => (fX4_swapCards r0 x2 h13).bind fun h15 => (zR h15 r0 1).bind fun r_16 => if zK g r_16 = 9 then (zR h15 r_16 1).bind fun r_18 => if zK g r_18 = 0 then some ((v14 * (zI h15 r_18 12)) + (x1 ^^^ (y1 * (((3 : Int32)) <<< (x2 &&& 31)))), h15) else none else none else none else none else none else none else none
/-! FifthCard Ledger noSwap -/
def jX4_noSwap_128 (g : Zh) (r0 : Nat) (x2 : Int32) (x3 : Int32) (x4 : Int32) (x5 : Int32) (t0 : Int32) (h : Zh) : Option (Nat × Int32 × Zh) :=
  if t0 < 0 then zlet (x5 + (1 : Int32)) fun y37 => some (0, (y37, h)) else some (1, (x5, h))
def bX4_noSwap_64 (g : Zh) (r0 : Nat) (x2 : Int32) (x3 : Int32) (x4 : Int32) (x5 : Int32) (h : Zh) : Option (Nat × Int32 × Zh) :=
  (zR h r0 1).bind fun r_22 => if zK g r_22 = 9 then (zR h r_22 1).bind fun r_24 => if zK g r_24 = 0 then if (zI h r_24 5) ≤ (x5 + ((1 : Int32))) then some (2, (x5, h)) else (zR h r0 1).bind fun r_26 => if zK g r_26 = 9 then (zR h r_26 1).bind fun r_28 => if zK g r_28 = 0 then if ¬ (zI h r_28 12) = 0 then zc2 (fX4_swapped r0 (zrem x4 (zI h r_28 12)) x5 h) fun v32 h31 => if x2 = 0 then (zR h31 r0 4).bind fun r_33 => if zK g r_33 = 8 then zc2 (fX8_holderOf r_33 v32 h31) fun v36 h35 => jX4_noSwap_128 g r0 x2 x3 x4 x5 v36 h35 else none else (zR h31 r0 4).bind fun r_38 => if zK g r_38 = 8 then zc2 (fX8_put r_38 v32 x3 h31) fun v41 h40 => jX4_noSwap_128 g r0 x2 x3 x4 x5 v41 h40 else none else none else none else none else none else none
def kX4_noSwap_64 (g : Zh) (r0 : Nat) (r1 : Nat) (x2 : Int32) (x3 : Int32) (e : Nat) (x5 : Int32) (h : Zh) : Option (Nat × Int32 × Zh) :=
  if e = 1 then some (1, (0, h)) else zlet (x3 + (1 : Int32)) fun y42 => some (0, (y42, h))
def bX4_noSwap_2 (g : Zh) (r0 : Nat) (r1 : Nat) (x2 : Int32) (x3 : Int32) (h : Zh) : Option (Nat × Int32 × Zh) :=
  if zK g r0 = 4 then (zR h r0 1).bind fun r_2 => if zK g r_2 = 9 then (zR h r_2 1).bind fun r_4 => if zK g r_4 = 0 then if (zI h r_4 9) ≤ x3 then some (2, (x3, h)) else if zK g r1 = 2 then (zR h r1 1).bind fun r_7 => if zK g r_7 = 100 then if zin x3 (zL g r_7) then zlet (zI h r_7 x3.toNatClampNeg) fun y10 => if y10 < 0 then zlet (x3 + (1 : Int32)) fun y11 => some (0, (y11, h)) else (zR h r0 4).bind fun r_12 => if zK g r_12 = 8 then zc2 (fX8_holderOf r_12 y10 h) fun v15 h14 => if v15 = x3 then (zR h14 r0 1).bind fun r_16 => if zK g r_16 = 9 then (zR h14 r_16 1).bind fun r_18 => (zR h14 r0 10).bind fun r_19 => if zK g r_18 = 0 then (fX0_unpackRow r_18 y10 r_19 h14).bind fun h21 => (lp (fun q : Int32 × Zh => bX4_noSwap_64 g r0 x2 x3 y10 q.1 q.2) zB ((0 : Int32), h21)).bind fun q => kX4_noSwap_64 g r0 r1 x2 x3 q.1 q.2.1 q.2.2 else none else none else zlet (x3 + (1 : Int32)) fun y43 => some (0, (y43, h14)) else none else none else none else none else none else none else none
def kX4_noSwap_2 (g : Zh)  (e : Nat) (x3 : Int32) (h : Zh) : Option (Int32 × Zh) :=
  if e = 1 then some ((0 : Int32), h) else some ((1 : Int32), h)
def fX4_noSwap (r0 : Nat) (r1 : Nat) (x2 : Int32) (h : Zh) : Option (Int32 × Zh) := zlet h fun g =>
  (lp (fun q : Int32 × Zh => bX4_noSwap_2 g r0 r1 x2 q.1 q.2) zB ((0 : Int32), h)).bind fun q => kX4_noSwap_2 g q.1 q.2.1 q.2.2
/-! FifthCard Ledger swapsJudged -/
def bX4_swapsJudged_21 (g : Zh) (r0 : Nat) (r1 : Nat) (x2 : Int32) (h : Zh) : Option (Nat × Int32 × Zh) :=
  (zR h r0 1).bind fun r_7 => if zK g r_7 = 9 then (zR h r_7 1).bind fun r_9 => if zK g r_9 = 0 then if (zI h r_9 9) ≤ x2 then some (1, (x2, h)) else (zR h r1 1).bind fun r_11 => if zK g r_11 = 100 then if zin x2 (zL g r_11) then if (zI h r_11 x2.toNatClampNeg) < 0 then zlet (x2 + (1 : Int32)) fun y14 => some (0, (y14, h)) else (zR h r0 4).bind fun r_15 => (zR h r1 1).bind fun r_16 => if zK g r_16 = 100 then if zin x2 (zL g r_16) then if zK g r_15 = 8 then zc2 (fX8_put r_15 (zI h r_16 x2.toNatClampNeg) x2 h) fun v21 h20 => zlet (x2 + (1 : Int32)) fun y22 => some (0, (y22, h20)) else none else none else none else none else none else none else none
def kX4_swapsJudged_21 (g : Zh) (r0 : Nat) (r1 : Nat) (e : Nat) (x2 : Int32) (h : Zh) : Option (Nat × Zh) :=
  zc2 (fX4_noSwap r0 r1 ((0 : Int32)) h) fun v24 h23 => if v24 = 0 ∨ v24 = 1 then zlet (zsI h23 r1 8 v24) fun h25 => if (zI h25 r1 8) = 0 then zlet (zsI h25 r1 9 ((0 : Int32))) fun h27 => some (r1, h27) else zc2 (fX4_noSwap r0 r1 ((1 : Int32)) h25) fun v29 h28 => if v29 = 0 then zlet (zsI h28 r1 9 ((0 : Int32))) fun h30 => some (r1, h30) else zlet (zsI h28 r1 9 ((1 : Int32))) fun h31 => some (r1, h31) else none
def fX4_swapsJudged (r0 : Nat) (r1 : Nat) (h : Zh) : Option (Nat × Zh) := zlet h fun g =>
  if zK g r1 = 2 then if (zI h r1 7) = 0 then zlet (zsI h r1 7 ((1 : Int32))) fun h2 => if zK g r0 = 4 then (zR h2 r0 4).bind fun r_4 => if zK g r_4 = 8 then (fX8_clear r_4 h2).bind fun h6 => (lp (fun q : Int32 × Zh => bX4_swapsJudged_21 g r0 r1 q.1 q.2) zB ((0 : Int32), h6)).bind fun q => kX4_swapsJudged_21 g r0 r1 q.1 q.2.1 q.2.2 else none else none else some (r1, h) else none
/-! FifthCard Ledger tryWords -/
def bX4_tryWords_9 (g : Zh) (r0 : Nat) (x1 : Int32) (x2 : Int32) (h : Zh) : Option (Nat × Int32 × Zh) :=
  (zR h r0 1).bind fun r_5 => if zK g r_5 = 9 then (zR h r_5 1).bind fun r_7 => if zK g r_7 = 0 then if (zI h r_7 9) ≤ x2 then some (2, (x2, h)) else (zR h r0 4).bind fun r_9 => (zR h r0 3).bind fun r_10 => (zR h r0 1).bind fun r_11 => if zK g r_11 = 9 then (zR h r_11 1).bind fun r_13 => (zR h r0 0).bind fun r_14 => if zK g r_14 = 100 then if zin x2 (zL g r_14) then if zK g r_10 = 3 then zc2 (fX3_byWords r_10 r_13 (zI h r_14 x2.toNatClampNeg) x1 h) fun v19 h18 => if zK g r_9 = 8 then zc2 (fX8_put r_9 v19 x2 h18) fun v22 h21 => if v22 < 0 then zlet (x2 + (1 : Int32)) fun y23 => some (0, (y23, h21)) else some (1, (x2, h21)) else none else none else none else none else none else none else none
def kX4_tryWords_9 (g : Zh)  (e : Nat) (x2 : Int32) (h : Zh) : Option (Int32 × Zh) :=
  if e = 1 then some ((0 : Int32), h) else some ((1 : Int32), h)
def fX4_tryWords (r0 : Nat) (x1 : Int32) (h : Zh) : Option (Int32 × Zh) := zlet h fun g =>
  if zK g r0 = 4 then (zR h r0 4).bind fun r_2 => if zK g r_2 = 8 then (fX8_clear r_2 h).bind fun h4 => (lp (fun q : Int32 × Zh => bX4_tryWords_9 g r0 x1 q.1 q.2) zB ((0 : Int32), h4)).bind fun q => kX4_tryWords_9 g q.1 q.2.1 q.2.2 else none else none
/-! FifthCard Ledger doWordsWork -/
def jX4_doWordsWork_30 (g : Zh) (r0 : Nat) (x1 : Int32) (h : Zh) : Option (Int32 × Zh) :=
  (zR h r0 8).bind fun r_5 => if zK g r_5 = 100 then if zin x1 (zL g r_5) then if (zI h r_5 x1.toNatClampNeg) = ((1 : Int32)) then some ((1 : Int32), h) else some ((0 : Int32), h) else none else none
def jX4_doWordsWork_29 (g : Zh) (r0 : Nat) (x1 : Int32) (t0 : Int32) (t1 : Int32) (t2 : Nat) (h : Zh) : Option (Int32 × Zh) :=
  if zK g t2 = 100 then if zin t1 (zL g t2) then zlet (zsI h t2 t1.toNatClampNeg t0) fun h13 => jX4_doWordsWork_30 g r0 x1 h13 else none else none
def fX4_doWordsWork (r0 : Nat) (x1 : Int32) (h : Zh) : Option (Int32 × Zh) := zlet h fun g =>
  if zK g r0 = 4 then (zR h r0 8).bind fun r_2 => if zK g r_2 = 100 then if zin x1 (zL g r_2) then if (zI h r_2 x1.toNatClampNeg) = ((-3 : Int32)) then (zR h r0 8).bind fun r_8 => zc2 (fX4_tryWords r0 x1 h) fun v10 h9 => if v10 = 0 then jX4_doWordsWork_29 g r0 x1 ((0 : Int32)) x1 r_8 h9 else jX4_doWordsWork_29 g r0 x1 ((1 : Int32)) x1 r_8 h9 else jX4_doWordsWork_30 g r0 x1 h else none else none else none
/-! FifthCard Ledger handsApart -/
def bX4_handsApart_29 (g : Zh) (r0 : Nat) (r1 : Nat) (r2 : Nat) (x4 : Int32) (x5 : Int32) (h : Zh) : Option (Nat × Int32 × Int32 × Zh) :=
  (zR h r0 1).bind fun r_11 => if zK g r_11 = 9 then (zR h r_11 1).bind fun r_13 => if zK g r_13 = 0 then if (zI h r_13 9) ≤ x5 then some (1, (x4, (x5, h))) else (zR h r1 1).bind fun r_15 => if zK g r_15 = 100 then if zin x5 (zL g r_15) then (zR h r2 1).bind fun r_18 => if zK g r_18 = 100 then if zin x5 (zL g r_18) then if (zI h r_15 x5.toNatClampNeg) = (zI h r_18 x5.toNatClampNeg) then zlet (x5 + (1 : Int32)) fun y21 => some (0, (x4, (y21, h))) else zlet (x4 + (1 : Int32)) fun y22 => zlet (x5 + (1 : Int32)) fun y23 => some (0, (y22, (y23, h))) else none else none else none else none else none else none
def kX4_handsApart_29 (g : Zh) (r0 : Nat) (r1 : Nat) (r2 : Nat) (x3 : Int32) (e : Nat) (x4 : Int32) (x5 : Int32) (h : Zh) : Option (Int32 × Zh) :=
  (zR h r0 7).bind fun r_24 => if zK g r_24 = 100 then if zin x3 (zL g r_24) then zlet (zsI h r_24 x3.toNatClampNeg x4) fun h27 => (zR h27 r0 7).bind fun r_28 => if zK g r_28 = 100 then if zin (((zI h27 r2 0) * ((4 : Int32))) + (zI h27 r1 0)) (zL g r_28) then zlet (zsI h27 r_28 (((zI h27 r2 0) * ((4 : Int32))) + (zI h27 r1 0)).toNatClampNeg x4) fun h31 => (zR h31 r0 7).bind fun r_32 => if zK g r_32 = 100 then if zin x3 (zL g r_32) then some (zI h31 r_32 x3.toNatClampNeg, h31) else none else none else none else none else none else none
def fX4_handsApart (r0 : Nat) (r1 : Nat) (r2 : Nat) (h : Zh) : Option (Int32 × Zh) := zlet h fun g =>
  if zK g r1 = 2 then if zK g r2 = 2 then zlet (((zI h r1 0) * ((4 : Int32))) + (zI h r2 0)) fun y3 => if zK g r0 = 4 then (zR h r0 7).bind fun r_5 => if zK g r_5 = 100 then if zin y3 (zL g r_5) then if (zI h r_5 y3.toNatClampNeg) = ((-3 : Int32)) then (lp (fun q : Int32 × Int32 × Zh => bX4_handsApart_29 g r0 r1 r2 q.1 q.2.1 q.2.2) zB ((0 : Int32), ((0 : Int32), h))).bind fun q => kX4_handsApart_29 g r0 r1 r2 y3 q.1 q.2.1 q.2.2.1 q.2.2.2 else (zR h r0 7).bind fun r_8 => if zK g r_8 = 100 then if zin y3 (zL g r_8) then some (zI h r_8 y3.toNatClampNeg, h) else none else none else none else none else none else none else none
/-! FifthCard Ledger largestDeck -/
def bX4_largestDeck_26 (g : Zh) (r0 : Nat) (x1 : Int32) (h : Zh) : Option (Nat × Int32 × Zh) :=
  if ((200 : Int32)) < x1 then some (1, (x1, h)) else (zR h r0 1).bind fun r_8 => if zK g r_8 = 9 then (zR h r_8 1).bind fun r_10 => if zK g r_10 = 0 then zc2 (fX0_handsOf r_10 x1 h) fun v13 h12 => (zR h12 r0 1).bind fun r_14 => if zK g r_14 = 9 then (zR h12 r_14 1).bind fun r_16 => if zK g r_16 = 0 then zc2 (fX0_rowsOf r_16 x1 h12) fun v19 h18 => if 0 < (lg_cmp v13 v19) then zlet (x1 + (1 : Int32)) fun y20 => some (0, (y20, h18)) else zlet (zsI h18 r0 9 x1) fun h21 => zlet (x1 + (1 : Int32)) fun y22 => some (0, (y22, h21)) else none else none else none else none
def kX4_largestDeck_26 (g : Zh) (r0 : Nat) (e : Nat) (x1 : Int32) (h : Zh) : Option (Int32 × Zh) :=
  some (zI h r0 9, h)
def fX4_largestDeck (r0 : Nat) (h : Zh) : Option (Int32 × Zh) := zlet h fun g =>
  if zK g r0 = 4 then if (zI h r0 9) = ((-3 : Int32)) then zlet (zsI h r0 9 ((-2 : Int32))) fun h2 => (zR h2 r0 1).bind fun r_3 => if zK g r_3 = 9 then (zR h2 r_3 1).bind fun r_5 => if zK g r_5 = 0 then zlet (zI h2 r_5 3) fun y7 => (lp (fun q : Int32 × Zh => bX4_largestDeck_26 g r0 q.1 q.2) zB (y7, h2)).bind fun q => kX4_largestDeck_26 g r0 q.1 q.2.1 q.2.2 else none else none else some (zI h r0 9, h) else none
theorem dX8_holderOf_0 : decode cX8_holderOf 0 = .ok (.aload_n 0, 1) := by decide +kernel
theorem dX8_holderOf_1 : decode cX8_holderOf 1 = .ok (.iload_n 1, 1) := by decide +kernel
theorem dX8_holderOf_2 : decode cX8_holderOf 2 = .ok (.invokevirtual 26, 3) := by decide +kernel
theorem dX8_holderOf_5 : decode cX8_holderOf 5 = .ok (.istore_n 2, 1) := by decide +kernel
theorem dX8_holderOf_6 : decode cX8_holderOf 6 = .ok (.iload_n 2, 1) := by decide +kernel
theorem dX8_holderOf_7 : decode cX8_holderOf 7 = .ok (.ifCond .lt 25, 3) := by decide +kernel
theorem dX8_holderOf_10 : decode cX8_holderOf 10 = .ok (.aload_n 0, 1) := by decide +kernel
theorem dX8_holderOf_11 : decode cX8_holderOf 11 = .ok (.getfield 18, 3) := by decide +kernel
theorem dX8_holderOf_14 : decode cX8_holderOf 14 = .ok (.iload_n 2, 1) := by decide +kernel
theorem dX8_holderOf_15 : decode cX8_holderOf 15 = .ok (.iaload, 1) := by decide +kernel
theorem dX8_holderOf_16 : decode cX8_holderOf 16 = .ok (.aload_n 0, 1) := by decide +kernel
theorem dX8_holderOf_17 : decode cX8_holderOf 17 = .ok (.getfield 21, 3) := by decide +kernel
theorem dX8_holderOf_20 : decode cX8_holderOf 20 = .ok (.if_icmp .ne 12, 3) := by decide +kernel
theorem dX8_holderOf_23 : decode cX8_holderOf 23 = .ok (.aload_n 0, 1) := by decide +kernel
theorem dX8_holderOf_24 : decode cX8_holderOf 24 = .ok (.getfield 15, 3) := by decide +kernel
theorem dX8_holderOf_27 : decode cX8_holderOf 27 = .ok (.iload_n 2, 1) := by decide +kernel
theorem dX8_holderOf_28 : decode cX8_holderOf 28 = .ok (.iaload, 1) := by decide +kernel
theorem dX8_holderOf_29 : decode cX8_holderOf 29 = .ok (.goto 4, 3) := by decide +kernel
theorem dX8_holderOf_32 : decode cX8_holderOf 32 = .ok (.iconst (-1), 1) := by decide +kernel
theorem dX8_holderOf_33 : decode cX8_holderOf 33 = .ok (.ireturn, 1) := by decide +kernel
theorem dX4_swapCards_0 : decode cX4_swapCards 0 = .ok (.aload_n 0, 1) := by decide +kernel
theorem dX4_swapCards_1 : decode cX4_swapCards 1 = .ok (.getfield 65, 3) := by decide +kernel
theorem dX4_swapCards_4 : decode cX4_swapCards 4 = .ok (.iload_n 1, 1) := by decide +kernel
theorem dX4_swapCards_5 : decode cX4_swapCards 5 = .ok (.iaload, 1) := by decide +kernel
theorem dX4_swapCards_6 : decode cX4_swapCards 6 = .ok (.istore_n 2, 1) := by decide +kernel
theorem dX4_swapCards_7 : decode cX4_swapCards 7 = .ok (.aload_n 0, 1) := by decide +kernel
theorem dX4_swapCards_8 : decode cX4_swapCards 8 = .ok (.getfield 65, 3) := by decide +kernel
theorem dX4_swapCards_11 : decode cX4_swapCards 11 = .ok (.iload_n 1, 1) := by decide +kernel
theorem dX4_swapCards_12 : decode cX4_swapCards 12 = .ok (.aload_n 0, 1) := by decide +kernel
theorem dX4_swapCards_13 : decode cX4_swapCards 13 = .ok (.getfield 65, 3) := by decide +kernel
theorem dX4_swapCards_16 : decode cX4_swapCards 16 = .ok (.iload_n 1, 1) := by decide +kernel
theorem dX4_swapCards_17 : decode cX4_swapCards 17 = .ok (.iconst 1, 1) := by decide +kernel
theorem dX4_swapCards_18 : decode cX4_swapCards 18 = .ok (.iadd, 1) := by decide +kernel
theorem dX4_swapCards_19 : decode cX4_swapCards 19 = .ok (.iaload, 1) := by decide +kernel
theorem dX4_swapCards_20 : decode cX4_swapCards 20 = .ok (.iastore, 1) := by decide +kernel
theorem dX4_swapCards_21 : decode cX4_swapCards 21 = .ok (.aload_n 0, 1) := by decide +kernel
theorem dX4_swapCards_22 : decode cX4_swapCards 22 = .ok (.getfield 65, 3) := by decide +kernel
theorem dX4_swapCards_25 : decode cX4_swapCards 25 = .ok (.iload_n 1, 1) := by decide +kernel
theorem dX4_swapCards_26 : decode cX4_swapCards 26 = .ok (.iconst 1, 1) := by decide +kernel
theorem dX4_swapCards_27 : decode cX4_swapCards 27 = .ok (.iadd, 1) := by decide +kernel
theorem dX4_swapCards_28 : decode cX4_swapCards 28 = .ok (.iload_n 2, 1) := by decide +kernel
theorem dX4_swapCards_29 : decode cX4_swapCards 29 = .ok (.iastore, 1) := by decide +kernel
theorem dX4_swapCards_30 : decode cX4_swapCards 30 = .ok (.return_, 1) := by decide +kernel
theorem dX4_swapped_0 : decode cX4_swapped 0 = .ok (.iload_n 1, 1) := by decide +kernel
theorem dX4_swapped_1 : decode cX4_swapped 1 = .ok (.iload_n 2, 1) := by decide +kernel
theorem dX4_swapped_2 : decode cX4_swapped 2 = .ok (.ishr, 1) := by decide +kernel
theorem dX4_swapped_3 : decode cX4_swapped 3 = .ok (.iload_n 1, 1) := by decide +kernel
theorem dX4_swapped_4 : decode cX4_swapped 4 = .ok (.iload_n 2, 1) := by decide +kernel
theorem dX4_swapped_5 : decode cX4_swapped 5 = .ok (.iconst 1, 1) := by decide +kernel
theorem dX4_swapped_6 : decode cX4_swapped 6 = .ok (.iadd, 1) := by decide +kernel
theorem dX4_swapped_7 : decode cX4_swapped 7 = .ok (.ishr, 1) := by decide +kernel
theorem dX4_swapped_8 : decode cX4_swapped 8 = .ok (.ixor, 1) := by decide +kernel
theorem dX4_swapped_9 : decode cX4_swapped 9 = .ok (.iconst 1, 1) := by decide +kernel
theorem dX4_swapped_10 : decode cX4_swapped 10 = .ok (.iand, 1) := by decide +kernel
theorem dX4_swapped_11 : decode cX4_swapped 11 = .ok (.istore_n 3, 1) := by decide +kernel
theorem dX4_swapped_12 : decode cX4_swapped 12 = .ok (.aload_n 0, 1) := by decide +kernel
theorem dX4_swapped_13 : decode cX4_swapped 13 = .ok (.iload_n 2, 1) := by decide +kernel
theorem dX4_swapped_14 : decode cX4_swapped 14 = .ok (.invokevirtual 191, 3) := by decide +kernel
theorem dX4_swapped_17 : decode cX4_swapped 17 = .ok (.aload_n 0, 1) := by decide +kernel
theorem dX4_swapped_18 : decode cX4_swapped 18 = .ok (.getfield 18, 3) := by decide +kernel
theorem dX4_swapped_21 : decode cX4_swapped 21 = .ok (.getfield 68, 3) := by decide +kernel
theorem dX4_swapped_24 : decode cX4_swapped 24 = .ok (.aload_n 0, 1) := by decide +kernel
theorem dX4_swapped_25 : decode cX4_swapped 25 = .ok (.getfield 65, 3) := by decide +kernel
theorem dX4_swapped_28 : decode cX4_swapped 28 = .ok (.aload_n 0, 1) := by decide +kernel
theorem dX4_swapped_29 : decode cX4_swapped 29 = .ok (.getfield 18, 3) := by decide +kernel
theorem dX4_swapped_32 : decode cX4_swapped 32 = .ok (.getfield 68, 3) := by decide +kernel
theorem dX4_swapped_35 : decode cX4_swapped 35 = .ok (.getfield 182, 3) := by decide +kernel
theorem dX4_swapped_38 : decode cX4_swapped 38 = .ok (.invokevirtual 194, 3) := by decide +kernel
theorem dX4_swapped_41 : decode cX4_swapped 41 = .ok (.istore 4, 2) := by decide +kernel
theorem dX4_swapped_43 : decode cX4_swapped 43 = .ok (.aload_n 0, 1) := by decide +kernel
theorem dX4_swapped_44 : decode cX4_swapped 44 = .ok (.iload_n 2, 1) := by decide +kernel
theorem dX4_swapped_45 : decode cX4_swapped 45 = .ok (.invokevirtual 191, 3) := by decide +kernel
theorem dX4_swapped_48 : decode cX4_swapped 48 = .ok (.iload 4, 2) := by decide +kernel
theorem dX4_swapped_50 : decode cX4_swapped 50 = .ok (.aload_n 0, 1) := by decide +kernel
theorem dX4_swapped_51 : decode cX4_swapped 51 = .ok (.getfield 18, 3) := by decide +kernel
theorem dX4_swapped_54 : decode cX4_swapped 54 = .ok (.getfield 68, 3) := by decide +kernel
theorem dX4_swapped_57 : decode cX4_swapped 57 = .ok (.getfield 185, 3) := by decide +kernel
theorem dX4_swapped_60 : decode cX4_swapped 60 = .ok (.imul, 1) := by decide +kernel
theorem dX4_swapped_61 : decode cX4_swapped 61 = .ok (.iload_n 1, 1) := by decide +kernel
theorem dX4_swapped_62 : decode cX4_swapped 62 = .ok (.iload_n 3, 1) := by decide +kernel
theorem dX4_swapped_63 : decode cX4_swapped 63 = .ok (.iconst 3, 1) := by decide +kernel
theorem dX4_swapped_64 : decode cX4_swapped 64 = .ok (.iload_n 2, 1) := by decide +kernel
theorem dX4_swapped_65 : decode cX4_swapped 65 = .ok (.ishl, 1) := by decide +kernel
theorem dX4_swapped_66 : decode cX4_swapped 66 = .ok (.imul, 1) := by decide +kernel
theorem dX4_swapped_67 : decode cX4_swapped 67 = .ok (.ixor, 1) := by decide +kernel
theorem dX4_swapped_68 : decode cX4_swapped 68 = .ok (.iadd, 1) := by decide +kernel
theorem dX4_swapped_69 : decode cX4_swapped 69 = .ok (.ireturn, 1) := by decide +kernel
theorem dX4_noSwap_0 : decode cX4_noSwap 0 = .ok (.iconst 0, 1) := by decide +kernel
theorem dX4_noSwap_1 : decode cX4_noSwap 1 = .ok (.istore_n 3, 1) := by decide +kernel
theorem dX4_noSwap_2 : decode cX4_noSwap 2 = .ok (.iload_n 3, 1) := by decide +kernel
theorem dX4_noSwap_3 : decode cX4_noSwap 3 = .ok (.aload_n 0, 1) := by decide +kernel
theorem dX4_noSwap_4 : decode cX4_noSwap 4 = .ok (.getfield 18, 3) := by decide +kernel
theorem dX4_noSwap_7 : decode cX4_noSwap 7 = .ok (.getfield 68, 3) := by decide +kernel
theorem dX4_noSwap_10 : decode cX4_noSwap 10 = .ok (.getfield 115, 3) := by decide +kernel
theorem dX4_noSwap_13 : decode cX4_noSwap 13 = .ok (.if_icmp .ge 132, 3) := by decide +kernel
theorem dX4_noSwap_16 : decode cX4_noSwap 16 = .ok (.aload_n 1, 1) := by decide +kernel
theorem dX4_noSwap_17 : decode cX4_noSwap 17 = .ok (.getfield 138, 3) := by decide +kernel
theorem dX4_noSwap_20 : decode cX4_noSwap 20 = .ok (.iload_n 3, 1) := by decide +kernel
theorem dX4_noSwap_21 : decode cX4_noSwap 21 = .ok (.iaload, 1) := by decide +kernel
theorem dX4_noSwap_22 : decode cX4_noSwap 22 = .ok (.istore 4, 2) := by decide +kernel
theorem dX4_noSwap_24 : decode cX4_noSwap 24 = .ok (.iload 4, 2) := by decide +kernel
theorem dX4_noSwap_26 : decode cX4_noSwap 26 = .ok (.ifCond .lt 113, 3) := by decide +kernel
theorem dX4_noSwap_29 : decode cX4_noSwap 29 = .ok (.aload_n 0, 1) := by decide +kernel
theorem dX4_noSwap_30 : decode cX4_noSwap 30 = .ok (.getfield 39, 3) := by decide +kernel
theorem dX4_noSwap_33 : decode cX4_noSwap 33 = .ok (.iload 4, 2) := by decide +kernel
theorem dX4_noSwap_35 : decode cX4_noSwap 35 = .ok (.invokevirtual 175, 3) := by decide +kernel
theorem dX4_noSwap_38 : decode cX4_noSwap 38 = .ok (.iload_n 3, 1) := by decide +kernel
theorem dX4_noSwap_39 : decode cX4_noSwap 39 = .ok (.if_icmp .eq 6, 3) := by decide +kernel
theorem dX4_noSwap_42 : decode cX4_noSwap 42 = .ok (.goto 97, 3) := by decide +kernel
theorem dX4_noSwap_45 : decode cX4_noSwap 45 = .ok (.aload_n 0, 1) := by decide +kernel
theorem dX4_noSwap_46 : decode cX4_noSwap 46 = .ok (.getfield 18, 3) := by decide +kernel
theorem dX4_noSwap_49 : decode cX4_noSwap 49 = .ok (.getfield 68, 3) := by decide +kernel
theorem dX4_noSwap_52 : decode cX4_noSwap 52 = .ok (.iload 4, 2) := by decide +kernel
theorem dX4_noSwap_54 : decode cX4_noSwap 54 = .ok (.aload_n 0, 1) := by decide +kernel
theorem dX4_noSwap_55 : decode cX4_noSwap 55 = .ok (.getfield 65, 3) := by decide +kernel
theorem dX4_noSwap_58 : decode cX4_noSwap 58 = .ok (.invokevirtual 178, 3) := by decide +kernel
theorem dX4_noSwap_61 : decode cX4_noSwap 61 = .ok (.iconst 0, 1) := by decide +kernel
theorem dX4_noSwap_62 : decode cX4_noSwap 62 = .ok (.istore 5, 2) := by decide +kernel
theorem dX4_noSwap_64 : decode cX4_noSwap 64 = .ok (.iload 5, 2) := by decide +kernel
theorem dX4_noSwap_66 : decode cX4_noSwap 66 = .ok (.iconst 1, 1) := by decide +kernel
theorem dX4_noSwap_67 : decode cX4_noSwap 67 = .ok (.iadd, 1) := by decide +kernel
theorem dX4_noSwap_68 : decode cX4_noSwap 68 = .ok (.aload_n 0, 1) := by decide +kernel
theorem dX4_noSwap_69 : decode cX4_noSwap 69 = .ok (.getfield 18, 3) := by decide +kernel
theorem dX4_noSwap_72 : decode cX4_noSwap 72 = .ok (.getfield 68, 3) := by decide +kernel
theorem dX4_noSwap_75 : decode cX4_noSwap 75 = .ok (.getfield 182, 3) := by decide +kernel
theorem dX4_noSwap_78 : decode cX4_noSwap 78 = .ok (.if_icmp .ge 61, 3) := by decide +kernel
theorem dX4_noSwap_81 : decode cX4_noSwap 81 = .ok (.aload_n 0, 1) := by decide +kernel
theorem dX4_noSwap_82 : decode cX4_noSwap 82 = .ok (.iload 4, 2) := by decide +kernel
theorem dX4_noSwap_84 : decode cX4_noSwap 84 = .ok (.aload_n 0, 1) := by decide +kernel
theorem dX4_noSwap_85 : decode cX4_noSwap 85 = .ok (.getfield 18, 3) := by decide +kernel
theorem dX4_noSwap_88 : decode cX4_noSwap 88 = .ok (.getfield 68, 3) := by decide +kernel
theorem dX4_noSwap_91 : decode cX4_noSwap 91 = .ok (.getfield 185, 3) := by decide +kernel
theorem dX4_noSwap_94 : decode cX4_noSwap 94 = .ok (.irem, 1) := by decide +kernel
theorem dX4_noSwap_95 : decode cX4_noSwap 95 = .ok (.iload 5, 2) := by decide +kernel
theorem dX4_noSwap_97 : decode cX4_noSwap 97 = .ok (.invokevirtual 188, 3) := by decide +kernel
theorem dX4_noSwap_100 : decode cX4_noSwap 100 = .ok (.istore 6, 2) := by decide +kernel
theorem dX4_noSwap_102 : decode cX4_noSwap 102 = .ok (.iload_n 2, 1) := by decide +kernel
theorem dX4_noSwap_103 : decode cX4_noSwap 103 = .ok (.ifCond .eq 16, 3) := by decide +kernel
theorem dX4_noSwap_106 : decode cX4_noSwap 106 = .ok (.aload_n 0, 1) := by decide +kernel
theorem dX4_noSwap_107 : decode cX4_noSwap 107 = .ok (.getfield 39, 3) := by decide +kernel
theorem dX4_noSwap_110 : decode cX4_noSwap 110 = .ok (.iload 6, 2) := by decide +kernel
theorem dX4_noSwap_112 : decode cX4_noSwap 112 = .ok (.iload_n 3, 1) := by decide +kernel
theorem dX4_noSwap_113 : decode cX4_noSwap 113 = .ok (.invokevirtual 144, 3) := by decide +kernel
theorem dX4_noSwap_116 : decode cX4_noSwap 116 = .ok (.goto 12, 3) := by decide +kernel
theorem dX4_noSwap_119 : decode cX4_noSwap 119 = .ok (.aload_n 0, 1) := by decide +kernel
theorem dX4_noSwap_120 : decode cX4_noSwap 120 = .ok (.getfield 39, 3) := by decide +kernel
theorem dX4_noSwap_123 : decode cX4_noSwap 123 = .ok (.iload 6, 2) := by decide +kernel
theorem dX4_noSwap_125 : decode cX4_noSwap 125 = .ok (.invokevirtual 175, 3) := by decide +kernel
theorem dX4_noSwap_128 : decode cX4_noSwap 128 = .ok (.ifCond .lt 5, 3) := by decide +kernel
theorem dX4_noSwap_131 : decode cX4_noSwap 131 = .ok (.iconst 0, 1) := by decide +kernel
theorem dX4_noSwap_132 : decode cX4_noSwap 132 = .ok (.ireturn, 1) := by decide +kernel
theorem dX4_noSwap_133 : decode cX4_noSwap 133 = .ok (.iinc 5 1, 3) := by decide +kernel
theorem dX4_noSwap_136 : decode cX4_noSwap 136 = .ok (.goto (-72), 3) := by decide +kernel
theorem dX4_noSwap_139 : decode cX4_noSwap 139 = .ok (.iinc 3 1, 3) := by decide +kernel
theorem dX4_noSwap_142 : decode cX4_noSwap 142 = .ok (.goto (-140), 3) := by decide +kernel
theorem dX4_noSwap_145 : decode cX4_noSwap 145 = .ok (.iconst 1, 1) := by decide +kernel
theorem dX4_noSwap_146 : decode cX4_noSwap 146 = .ok (.ireturn, 1) := by decide +kernel
theorem dX4_swapsJudged_0 : decode cX4_swapsJudged 0 = .ok (.aload_n 1, 1) := by decide +kernel
theorem dX4_swapsJudged_1 : decode cX4_swapsJudged 1 = .ok (.getfield 162, 3) := by decide +kernel
theorem dX4_swapsJudged_4 : decode cX4_swapsJudged 4 = .ok (.ifCond .ne 96, 3) := by decide +kernel
theorem dX4_swapsJudged_7 : decode cX4_swapsJudged 7 = .ok (.aload_n 1, 1) := by decide +kernel
theorem dX4_swapsJudged_8 : decode cX4_swapsJudged 8 = .ok (.iconst 1, 1) := by decide +kernel
theorem dX4_swapsJudged_9 : decode cX4_swapsJudged 9 = .ok (.putfield 162, 3) := by decide +kernel
theorem dX4_swapsJudged_12 : decode cX4_swapsJudged 12 = .ok (.aload_n 0, 1) := by decide +kernel
theorem dX4_swapsJudged_13 : decode cX4_swapsJudged 13 = .ok (.getfield 39, 3) := by decide +kernel
theorem dX4_swapsJudged_16 : decode cX4_swapsJudged 16 = .ok (.invokevirtual 114, 3) := by decide +kernel
theorem dX4_swapsJudged_19 : decode cX4_swapsJudged 19 = .ok (.iconst 0, 1) := by decide +kernel
theorem dX4_swapsJudged_20 : decode cX4_swapsJudged 20 = .ok (.istore_n 2, 1) := by decide +kernel
theorem dX4_swapsJudged_21 : decode cX4_swapsJudged 21 = .ok (.iload_n 2, 1) := by decide +kernel
theorem dX4_swapsJudged_22 : decode cX4_swapsJudged 22 = .ok (.aload_n 0, 1) := by decide +kernel
theorem dX4_swapsJudged_23 : decode cX4_swapsJudged 23 = .ok (.getfield 18, 3) := by decide +kernel
theorem dX4_swapsJudged_26 : decode cX4_swapsJudged 26 = .ok (.getfield 68, 3) := by decide +kernel
theorem dX4_swapsJudged_29 : decode cX4_swapsJudged 29 = .ok (.getfield 115, 3) := by decide +kernel
theorem dX4_swapsJudged_32 : decode cX4_swapsJudged 32 = .ok (.if_icmp .ge 33, 3) := by decide +kernel
theorem dX4_swapsJudged_35 : decode cX4_swapsJudged 35 = .ok (.aload_n 1, 1) := by decide +kernel
theorem dX4_swapsJudged_36 : decode cX4_swapsJudged 36 = .ok (.getfield 138, 3) := by decide +kernel
theorem dX4_swapsJudged_39 : decode cX4_swapsJudged 39 = .ok (.iload_n 2, 1) := by decide +kernel
theorem dX4_swapsJudged_40 : decode cX4_swapsJudged 40 = .ok (.iaload, 1) := by decide +kernel
theorem dX4_swapsJudged_41 : decode cX4_swapsJudged 41 = .ok (.ifCond .lt 18, 3) := by decide +kernel
theorem dX4_swapsJudged_44 : decode cX4_swapsJudged 44 = .ok (.aload_n 0, 1) := by decide +kernel
theorem dX4_swapsJudged_45 : decode cX4_swapsJudged 45 = .ok (.getfield 39, 3) := by decide +kernel
theorem dX4_swapsJudged_48 : decode cX4_swapsJudged 48 = .ok (.aload_n 1, 1) := by decide +kernel
theorem dX4_swapsJudged_49 : decode cX4_swapsJudged 49 = .ok (.getfield 138, 3) := by decide +kernel
theorem dX4_swapsJudged_52 : decode cX4_swapsJudged 52 = .ok (.iload_n 2, 1) := by decide +kernel
theorem dX4_swapsJudged_53 : decode cX4_swapsJudged 53 = .ok (.iaload, 1) := by decide +kernel
theorem dX4_swapsJudged_54 : decode cX4_swapsJudged 54 = .ok (.iload_n 2, 1) := by decide +kernel
theorem dX4_swapsJudged_55 : decode cX4_swapsJudged 55 = .ok (.invokevirtual 144, 3) := by decide +kernel
theorem dX4_swapsJudged_58 : decode cX4_swapsJudged 58 = .ok (.pop, 1) := by decide +kernel
theorem dX4_swapsJudged_59 : decode cX4_swapsJudged 59 = .ok (.iinc 2 1, 3) := by decide +kernel
theorem dX4_swapsJudged_62 : decode cX4_swapsJudged 62 = .ok (.goto (-41), 3) := by decide +kernel
theorem dX4_swapsJudged_65 : decode cX4_swapsJudged 65 = .ok (.aload_n 1, 1) := by decide +kernel
theorem dX4_swapsJudged_66 : decode cX4_swapsJudged 66 = .ok (.aload_n 0, 1) := by decide +kernel
theorem dX4_swapsJudged_67 : decode cX4_swapsJudged 67 = .ok (.aload_n 1, 1) := by decide +kernel
theorem dX4_swapsJudged_68 : decode cX4_swapsJudged 68 = .ok (.iconst 0, 1) := by decide +kernel
theorem dX4_swapsJudged_69 : decode cX4_swapsJudged 69 = .ok (.invokevirtual 165, 3) := by decide +kernel
theorem dX4_swapsJudged_72 : decode cX4_swapsJudged 72 = .ok (.putfield 169, 3) := by decide +kernel
theorem dX4_swapsJudged_75 : decode cX4_swapsJudged 75 = .ok (.aload_n 1, 1) := by decide +kernel
theorem dX4_swapsJudged_76 : decode cX4_swapsJudged 76 = .ok (.aload_n 1, 1) := by decide +kernel
theorem dX4_swapsJudged_77 : decode cX4_swapsJudged 77 = .ok (.getfield 169, 3) := by decide +kernel
theorem dX4_swapsJudged_80 : decode cX4_swapsJudged 80 = .ok (.ifCond .eq 16, 3) := by decide +kernel
theorem dX4_swapsJudged_83 : decode cX4_swapsJudged 83 = .ok (.aload_n 0, 1) := by decide +kernel
theorem dX4_swapsJudged_84 : decode cX4_swapsJudged 84 = .ok (.aload_n 1, 1) := by decide +kernel
theorem dX4_swapsJudged_85 : decode cX4_swapsJudged 85 = .ok (.iconst 1, 1) := by decide +kernel
theorem dX4_swapsJudged_86 : decode cX4_swapsJudged 86 = .ok (.invokevirtual 165, 3) := by decide +kernel
theorem dX4_swapsJudged_89 : decode cX4_swapsJudged 89 = .ok (.ifCond .eq 7, 3) := by decide +kernel
theorem dX4_swapsJudged_92 : decode cX4_swapsJudged 92 = .ok (.iconst 1, 1) := by decide +kernel
theorem dX4_swapsJudged_93 : decode cX4_swapsJudged 93 = .ok (.goto 4, 3) := by decide +kernel
theorem dX4_swapsJudged_96 : decode cX4_swapsJudged 96 = .ok (.iconst 0, 1) := by decide +kernel
theorem dX4_swapsJudged_97 : decode cX4_swapsJudged 97 = .ok (.putfield 172, 3) := by decide +kernel
theorem dX4_swapsJudged_100 : decode cX4_swapsJudged 100 = .ok (.aload_n 1, 1) := by decide +kernel
theorem dX4_swapsJudged_101 : decode cX4_swapsJudged 101 = .ok (.areturn, 1) := by decide +kernel
theorem dX4_tryWords_0 : decode cX4_tryWords 0 = .ok (.aload_n 0, 1) := by decide +kernel
theorem dX4_tryWords_1 : decode cX4_tryWords 1 = .ok (.getfield 39, 3) := by decide +kernel
theorem dX4_tryWords_4 : decode cX4_tryWords 4 = .ok (.invokevirtual 114, 3) := by decide +kernel
theorem dX4_tryWords_7 : decode cX4_tryWords 7 = .ok (.iconst 0, 1) := by decide +kernel
theorem dX4_tryWords_8 : decode cX4_tryWords 8 = .ok (.istore_n 2, 1) := by decide +kernel
theorem dX4_tryWords_9 : decode cX4_tryWords 9 = .ok (.iload_n 2, 1) := by decide +kernel
theorem dX4_tryWords_10 : decode cX4_tryWords 10 = .ok (.aload_n 0, 1) := by decide +kernel
theorem dX4_tryWords_11 : decode cX4_tryWords 11 = .ok (.getfield 18, 3) := by decide +kernel
theorem dX4_tryWords_14 : decode cX4_tryWords 14 = .ok (.getfield 68, 3) := by decide +kernel
theorem dX4_tryWords_17 : decode cX4_tryWords 17 = .ok (.getfield 115, 3) := by decide +kernel
theorem dX4_tryWords_20 : decode cX4_tryWords 20 = .ok (.if_icmp .ge 43, 3) := by decide +kernel
theorem dX4_tryWords_23 : decode cX4_tryWords 23 = .ok (.aload_n 0, 1) := by decide +kernel
theorem dX4_tryWords_24 : decode cX4_tryWords 24 = .ok (.getfield 39, 3) := by decide +kernel
theorem dX4_tryWords_27 : decode cX4_tryWords 27 = .ok (.aload_n 0, 1) := by decide +kernel
theorem dX4_tryWords_28 : decode cX4_tryWords 28 = .ok (.getfield 32, 3) := by decide +kernel
theorem dX4_tryWords_31 : decode cX4_tryWords 31 = .ok (.aload_n 0, 1) := by decide +kernel
theorem dX4_tryWords_32 : decode cX4_tryWords 32 = .ok (.getfield 18, 3) := by decide +kernel
theorem dX4_tryWords_35 : decode cX4_tryWords 35 = .ok (.getfield 68, 3) := by decide +kernel
theorem dX4_tryWords_38 : decode cX4_tryWords 38 = .ok (.aload_n 0, 1) := by decide +kernel
theorem dX4_tryWords_39 : decode cX4_tryWords 39 = .ok (.getfield 9, 3) := by decide +kernel
theorem dX4_tryWords_42 : decode cX4_tryWords 42 = .ok (.iload_n 2, 1) := by decide +kernel
theorem dX4_tryWords_43 : decode cX4_tryWords 43 = .ok (.iaload, 1) := by decide +kernel
theorem dX4_tryWords_44 : decode cX4_tryWords 44 = .ok (.iload_n 1, 1) := by decide +kernel
theorem dX4_tryWords_45 : decode cX4_tryWords 45 = .ok (.invokevirtual 134, 3) := by decide +kernel
theorem dX4_tryWords_48 : decode cX4_tryWords 48 = .ok (.iload_n 2, 1) := by decide +kernel
theorem dX4_tryWords_49 : decode cX4_tryWords 49 = .ok (.invokevirtual 144, 3) := by decide +kernel
theorem dX4_tryWords_52 : decode cX4_tryWords 52 = .ok (.ifCond .lt 5, 3) := by decide +kernel
theorem dX4_tryWords_55 : decode cX4_tryWords 55 = .ok (.iconst 0, 1) := by decide +kernel
theorem dX4_tryWords_56 : decode cX4_tryWords 56 = .ok (.ireturn, 1) := by decide +kernel
theorem dX4_tryWords_57 : decode cX4_tryWords 57 = .ok (.iinc 2 1, 3) := by decide +kernel
theorem dX4_tryWords_60 : decode cX4_tryWords 60 = .ok (.goto (-51), 3) := by decide +kernel
theorem dX4_tryWords_63 : decode cX4_tryWords 63 = .ok (.iconst 1, 1) := by decide +kernel
theorem dX4_tryWords_64 : decode cX4_tryWords 64 = .ok (.ireturn, 1) := by decide +kernel
theorem dX4_doWordsWork_0 : decode cX4_doWordsWork 0 = .ok (.aload_n 0, 1) := by decide +kernel
theorem dX4_doWordsWork_1 : decode cX4_doWordsWork 1 = .ok (.getfield 62, 3) := by decide +kernel
theorem dX4_doWordsWork_4 : decode cX4_doWordsWork 4 = .ok (.iload_n 1, 1) := by decide +kernel
theorem dX4_doWordsWork_5 : decode cX4_doWordsWork 5 = .ok (.iaload, 1) := by decide +kernel
theorem dX4_doWordsWork_6 : decode cX4_doWordsWork 6 = .ok (.bipush (-3), 2) := by decide +kernel
theorem dX4_doWordsWork_8 : decode cX4_doWordsWork 8 = .ok (.if_icmp .ne 22, 3) := by decide +kernel
theorem dX4_doWordsWork_11 : decode cX4_doWordsWork 11 = .ok (.aload_n 0, 1) := by decide +kernel
theorem dX4_doWordsWork_12 : decode cX4_doWordsWork 12 = .ok (.getfield 62, 3) := by decide +kernel
theorem dX4_doWordsWork_15 : decode cX4_doWordsWork 15 = .ok (.iload_n 1, 1) := by decide +kernel
theorem dX4_doWordsWork_16 : decode cX4_doWordsWork 16 = .ok (.aload_n 0, 1) := by decide +kernel
theorem dX4_doWordsWork_17 : decode cX4_doWordsWork 17 = .ok (.iload_n 1, 1) := by decide +kernel
theorem dX4_doWordsWork_18 : decode cX4_doWordsWork 18 = .ok (.invokevirtual 198, 3) := by decide +kernel
theorem dX4_doWordsWork_21 : decode cX4_doWordsWork 21 = .ok (.ifCond .eq 7, 3) := by decide +kernel
theorem dX4_doWordsWork_24 : decode cX4_doWordsWork 24 = .ok (.iconst 1, 1) := by decide +kernel
theorem dX4_doWordsWork_25 : decode cX4_doWordsWork 25 = .ok (.goto 4, 3) := by decide +kernel
theorem dX4_doWordsWork_28 : decode cX4_doWordsWork 28 = .ok (.iconst 0, 1) := by decide +kernel
theorem dX4_doWordsWork_29 : decode cX4_doWordsWork 29 = .ok (.iastore, 1) := by decide +kernel
theorem dX4_doWordsWork_30 : decode cX4_doWordsWork 30 = .ok (.aload_n 0, 1) := by decide +kernel
theorem dX4_doWordsWork_31 : decode cX4_doWordsWork 31 = .ok (.getfield 62, 3) := by decide +kernel
theorem dX4_doWordsWork_34 : decode cX4_doWordsWork 34 = .ok (.iload_n 1, 1) := by decide +kernel
theorem dX4_doWordsWork_35 : decode cX4_doWordsWork 35 = .ok (.iaload, 1) := by decide +kernel
theorem dX4_doWordsWork_36 : decode cX4_doWordsWork 36 = .ok (.iconst 1, 1) := by decide +kernel
theorem dX4_doWordsWork_37 : decode cX4_doWordsWork 37 = .ok (.if_icmp .ne 7, 3) := by decide +kernel
theorem dX4_doWordsWork_40 : decode cX4_doWordsWork 40 = .ok (.iconst 1, 1) := by decide +kernel
theorem dX4_doWordsWork_41 : decode cX4_doWordsWork 41 = .ok (.goto 4, 3) := by decide +kernel
theorem dX4_doWordsWork_44 : decode cX4_doWordsWork 44 = .ok (.iconst 0, 1) := by decide +kernel
theorem dX4_doWordsWork_45 : decode cX4_doWordsWork 45 = .ok (.ireturn, 1) := by decide +kernel
theorem dX4_handsApart_0 : decode cX4_handsApart 0 = .ok (.aload_n 1, 1) := by decide +kernel
theorem dX4_handsApart_1 : decode cX4_handsApart 1 = .ok (.getfield 202, 3) := by decide +kernel
theorem dX4_handsApart_4 : decode cX4_handsApart 4 = .ok (.iconst 4, 1) := by decide +kernel
theorem dX4_handsApart_5 : decode cX4_handsApart 5 = .ok (.imul, 1) := by decide +kernel
theorem dX4_handsApart_6 : decode cX4_handsApart 6 = .ok (.aload_n 2, 1) := by decide +kernel
theorem dX4_handsApart_7 : decode cX4_handsApart 7 = .ok (.getfield 202, 3) := by decide +kernel
theorem dX4_handsApart_10 : decode cX4_handsApart 10 = .ok (.iadd, 1) := by decide +kernel
theorem dX4_handsApart_11 : decode cX4_handsApart 11 = .ok (.istore_n 3, 1) := by decide +kernel
theorem dX4_handsApart_12 : decode cX4_handsApart 12 = .ok (.aload_n 0, 1) := by decide +kernel
theorem dX4_handsApart_13 : decode cX4_handsApart 13 = .ok (.getfield 59, 3) := by decide +kernel
theorem dX4_handsApart_16 : decode cX4_handsApart 16 = .ok (.iload_n 3, 1) := by decide +kernel
theorem dX4_handsApart_17 : decode cX4_handsApart 17 = .ok (.iaload, 1) := by decide +kernel
theorem dX4_handsApart_18 : decode cX4_handsApart 18 = .ok (.bipush (-3), 2) := by decide +kernel
theorem dX4_handsApart_20 : decode cX4_handsApart 20 = .ok (.if_icmp .ne 76, 3) := by decide +kernel
theorem dX4_handsApart_23 : decode cX4_handsApart 23 = .ok (.iconst 0, 1) := by decide +kernel
theorem dX4_handsApart_24 : decode cX4_handsApart 24 = .ok (.istore 4, 2) := by decide +kernel
theorem dX4_handsApart_26 : decode cX4_handsApart 26 = .ok (.iconst 0, 1) := by decide +kernel
theorem dX4_handsApart_27 : decode cX4_handsApart 27 = .ok (.istore 5, 2) := by decide +kernel
theorem dX4_handsApart_29 : decode cX4_handsApart 29 = .ok (.iload 5, 2) := by decide +kernel
theorem dX4_handsApart_31 : decode cX4_handsApart 31 = .ok (.aload_n 0, 1) := by decide +kernel
theorem dX4_handsApart_32 : decode cX4_handsApart 32 = .ok (.getfield 18, 3) := by decide +kernel
theorem dX4_handsApart_35 : decode cX4_handsApart 35 = .ok (.getfield 68, 3) := by decide +kernel
theorem dX4_handsApart_38 : decode cX4_handsApart 38 = .ok (.getfield 115, 3) := by decide +kernel
theorem dX4_handsApart_41 : decode cX4_handsApart 41 = .ok (.if_icmp .ge 29, 3) := by decide +kernel
theorem dX4_handsApart_44 : decode cX4_handsApart 44 = .ok (.aload_n 1, 1) := by decide +kernel
theorem dX4_handsApart_45 : decode cX4_handsApart 45 = .ok (.getfield 138, 3) := by decide +kernel
theorem dX4_handsApart_48 : decode cX4_handsApart 48 = .ok (.iload 5, 2) := by decide +kernel
theorem dX4_handsApart_50 : decode cX4_handsApart 50 = .ok (.iaload, 1) := by decide +kernel
theorem dX4_handsApart_51 : decode cX4_handsApart 51 = .ok (.aload_n 2, 1) := by decide +kernel
theorem dX4_handsApart_52 : decode cX4_handsApart 52 = .ok (.getfield 138, 3) := by decide +kernel
theorem dX4_handsApart_55 : decode cX4_handsApart 55 = .ok (.iload 5, 2) := by decide +kernel
theorem dX4_handsApart_57 : decode cX4_handsApart 57 = .ok (.iaload, 1) := by decide +kernel
theorem dX4_handsApart_58 : decode cX4_handsApart 58 = .ok (.if_icmp .eq 6, 3) := by decide +kernel
theorem dX4_handsApart_61 : decode cX4_handsApart 61 = .ok (.iinc 4 1, 3) := by decide +kernel
theorem dX4_handsApart_64 : decode cX4_handsApart 64 = .ok (.iinc 5 1, 3) := by decide +kernel
theorem dX4_handsApart_67 : decode cX4_handsApart 67 = .ok (.goto (-38), 3) := by decide +kernel
theorem dX4_handsApart_70 : decode cX4_handsApart 70 = .ok (.aload_n 0, 1) := by decide +kernel
theorem dX4_handsApart_71 : decode cX4_handsApart 71 = .ok (.getfield 59, 3) := by decide +kernel
theorem dX4_handsApart_74 : decode cX4_handsApart 74 = .ok (.iload_n 3, 1) := by decide +kernel
theorem dX4_handsApart_75 : decode cX4_handsApart 75 = .ok (.iload 4, 2) := by decide +kernel
theorem dX4_handsApart_77 : decode cX4_handsApart 77 = .ok (.iastore, 1) := by decide +kernel
theorem dX4_handsApart_78 : decode cX4_handsApart 78 = .ok (.aload_n 0, 1) := by decide +kernel
theorem dX4_handsApart_79 : decode cX4_handsApart 79 = .ok (.getfield 59, 3) := by decide +kernel
theorem dX4_handsApart_82 : decode cX4_handsApart 82 = .ok (.aload_n 2, 1) := by decide +kernel
theorem dX4_handsApart_83 : decode cX4_handsApart 83 = .ok (.getfield 202, 3) := by decide +kernel
theorem dX4_handsApart_86 : decode cX4_handsApart 86 = .ok (.iconst 4, 1) := by decide +kernel
theorem dX4_handsApart_87 : decode cX4_handsApart 87 = .ok (.imul, 1) := by decide +kernel
theorem dX4_handsApart_88 : decode cX4_handsApart 88 = .ok (.aload_n 1, 1) := by decide +kernel
theorem dX4_handsApart_89 : decode cX4_handsApart 89 = .ok (.getfield 202, 3) := by decide +kernel
theorem dX4_handsApart_92 : decode cX4_handsApart 92 = .ok (.iadd, 1) := by decide +kernel
theorem dX4_handsApart_93 : decode cX4_handsApart 93 = .ok (.iload 4, 2) := by decide +kernel
theorem dX4_handsApart_95 : decode cX4_handsApart 95 = .ok (.iastore, 1) := by decide +kernel
theorem dX4_handsApart_96 : decode cX4_handsApart 96 = .ok (.aload_n 0, 1) := by decide +kernel
theorem dX4_handsApart_97 : decode cX4_handsApart 97 = .ok (.getfield 59, 3) := by decide +kernel
theorem dX4_handsApart_100 : decode cX4_handsApart 100 = .ok (.iload_n 3, 1) := by decide +kernel
theorem dX4_handsApart_101 : decode cX4_handsApart 101 = .ok (.iaload, 1) := by decide +kernel
theorem dX4_handsApart_102 : decode cX4_handsApart 102 = .ok (.ireturn, 1) := by decide +kernel
theorem dX4_largestDeck_0 : decode cX4_largestDeck 0 = .ok (.aload_n 0, 1) := by decide +kernel
theorem dX4_largestDeck_1 : decode cX4_largestDeck 1 = .ok (.getfield 101, 3) := by decide +kernel
theorem dX4_largestDeck_4 : decode cX4_largestDeck 4 = .ok (.bipush (-3), 2) := by decide +kernel
theorem dX4_largestDeck_6 : decode cX4_largestDeck 6 = .ok (.if_icmp .ne 64, 3) := by decide +kernel
theorem dX4_largestDeck_9 : decode cX4_largestDeck 9 = .ok (.aload_n 0, 1) := by decide +kernel
theorem dX4_largestDeck_10 : decode cX4_largestDeck 10 = .ok (.bipush (-2), 2) := by decide +kernel
theorem dX4_largestDeck_12 : decode cX4_largestDeck 12 = .ok (.putfield 101, 3) := by decide +kernel
theorem dX4_largestDeck_15 : decode cX4_largestDeck 15 = .ok (.aload_n 0, 1) := by decide +kernel
theorem dX4_largestDeck_16 : decode cX4_largestDeck 16 = .ok (.getfield 18, 3) := by decide +kernel
theorem dX4_largestDeck_19 : decode cX4_largestDeck 19 = .ok (.getfield 68, 3) := by decide +kernel
theorem dX4_largestDeck_22 : decode cX4_largestDeck 22 = .ok (.getfield 78, 3) := by decide +kernel
theorem dX4_largestDeck_25 : decode cX4_largestDeck 25 = .ok (.istore_n 1, 1) := by decide +kernel
theorem dX4_largestDeck_26 : decode cX4_largestDeck 26 = .ok (.iload_n 1, 1) := by decide +kernel
theorem dX4_largestDeck_27 : decode cX4_largestDeck 27 = .ok (.sipush 200, 3) := by decide +kernel
theorem dX4_largestDeck_30 : decode cX4_largestDeck 30 = .ok (.if_icmp .gt 40, 3) := by decide +kernel
theorem dX4_largestDeck_33 : decode cX4_largestDeck 33 = .ok (.aload_n 0, 1) := by decide +kernel
theorem dX4_largestDeck_34 : decode cX4_largestDeck 34 = .ok (.getfield 18, 3) := by decide +kernel
theorem dX4_largestDeck_37 : decode cX4_largestDeck 37 = .ok (.getfield 68, 3) := by decide +kernel
theorem dX4_largestDeck_40 : decode cX4_largestDeck 40 = .ok (.iload_n 1, 1) := by decide +kernel
theorem dX4_largestDeck_41 : decode cX4_largestDeck 41 = .ok (.invokevirtual 205, 3) := by decide +kernel
theorem dX4_largestDeck_44 : decode cX4_largestDeck 44 = .ok (.aload_n 0, 1) := by decide +kernel
theorem dX4_largestDeck_45 : decode cX4_largestDeck 45 = .ok (.getfield 18, 3) := by decide +kernel
theorem dX4_largestDeck_48 : decode cX4_largestDeck 48 = .ok (.getfield 68, 3) := by decide +kernel
theorem dX4_largestDeck_51 : decode cX4_largestDeck 51 = .ok (.iload_n 1, 1) := by decide +kernel
theorem dX4_largestDeck_52 : decode cX4_largestDeck 52 = .ok (.invokevirtual 209, 3) := by decide +kernel
theorem dX4_largestDeck_55 : decode cX4_largestDeck 55 = .ok (.lcmp, 1) := by decide +kernel
theorem dX4_largestDeck_56 : decode cX4_largestDeck 56 = .ok (.ifCond .gt 8, 3) := by decide +kernel
theorem dX4_largestDeck_59 : decode cX4_largestDeck 59 = .ok (.aload_n 0, 1) := by decide +kernel
theorem dX4_largestDeck_60 : decode cX4_largestDeck 60 = .ok (.iload_n 1, 1) := by decide +kernel
theorem dX4_largestDeck_61 : decode cX4_largestDeck 61 = .ok (.putfield 101, 3) := by decide +kernel
theorem dX4_largestDeck_64 : decode cX4_largestDeck 64 = .ok (.iinc 1 1, 3) := by decide +kernel
theorem dX4_largestDeck_67 : decode cX4_largestDeck 67 = .ok (.goto (-41), 3) := by decide +kernel
theorem dX4_largestDeck_70 : decode cX4_largestDeck 70 = .ok (.aload_n 0, 1) := by decide +kernel
theorem dX4_largestDeck_71 : decode cX4_largestDeck 71 = .ok (.getfield 101, 3) := by decide +kernel
theorem dX4_largestDeck_74 : decode cX4_largestDeck 74 = .ok (.ireturn, 1) := by decide +kernel
set_option maxHeartbeats 4000000 in
set_option maxRecDepth 100000 in
theorem sX8_holderOf {l : Launch} {D : va_G} {cA : Nat → ClassId} {base : Nat} {sA : Nat → Nat} {r0 : Nat} {x1 : Int32} {h hE : Zh} {rE : Int32} (hf : fX8_holderOf r0 x1 h = some (rE, hE)) : zC l yX8_holderOf cX8_holderOf 3 (some .int) 1 23 D cA base sA [.ref (base + r0), .int x1] h (some (.int rE)) hE := by
  refine g_entry RX8 (by decide) rfl (Nat.le_of_ble_eq_true rfl) ?_
  intro p e s m args below meth c X hr
  unfold fX8_holderOf at hf
  have hf := zlet_n (x := h) rfl hf
  show zG p l e { frames := 1, cells := 0, slots := 0, locals := 23 } s m args below meth c (MQ below (zQ D cA base h hE (some (.int rE))) args s 0 0 (zA base)) 3 D cA base h 0 [(0, .ref (base + r0)), (1, .int x1)] [] h
  refine g_aload_n X 0 dX8_holderOf_0 rfl ?_
  refine g_iload_n X 1 dX8_holderOf_1 rfl ?_
  obtain ⟨hk1, hf⟩ := zite hf
  obtain ⟨v3, h2, hch2, hf⟩ := zc2_e hf
  refine g_callV X 1 (sX8_slotOf hch2) zf8 hk1 ydX8_slotOf w_ml_RX8_26 w_instanceMethod_X8_slotOf w_sel_X8_slotOf w_ini_RX8 w_code_X8_slotOf (by decide) rfl (st := []) rfl rfl (Nat.le_of_ble_eq_true rfl) dX8_holderOf_2 ?_
  refine g_istore_n X [(2, .int v3), (0, .ref (base + r0)), (1, .int x1)] dX8_holderOf_5 (by decide) rfl ?_
  refine g_iload_n X 0 dX8_holderOf_6 rfl ?_
  refine g_if_lt X 32 dX8_holderOf_7 (by decide) (fun hq => ?_) (fun hq => ?_)
  · have hf := zpos hq hf
    refine g_iconst X (v := -1) dX8_holderOf_32 (by decide) ?_
    obtain ⟨rfl, rfl⟩ := zsm hf
    exact g_iret X hr dX8_holderOf_33
  · have hf := zneg hq hf
    refine g_aload_n X 1 dX8_holderOf_10 rfl ?_
    obtain ⟨r_4, hr_4, hf⟩ := zbd hf
    refine g_get X zf8 hk1 2 (by decide) w_f_RX8_18 rfl (zfv_r hr_4 rfl) dX8_holderOf_11 ?_
    refine g_iload_n X 0 dX8_holderOf_14 rfl ?_
    obtain ⟨hk5, hf⟩ := zite hf
    obtain ⟨hi6, hf⟩ := zite hf
    refine g_iald X hk5 hi6 dX8_holderOf_15 ?_
    refine g_aload_n X 1 dX8_holderOf_16 rfl ?_
    refine g_get X zf8 hk1 3 (by decide) w_f_RX8_21 rfl rfl dX8_holderOf_17 ?_
    refine g_icmp_ne X 32 dX8_holderOf_20 (by decide) (fun hq => ?_) (fun hq => ?_)
    · have hf := zneg hq hf
      refine g_iconst X (v := -1) dX8_holderOf_32 (by decide) ?_
      obtain ⟨rfl, rfl⟩ := zsm hf
      exact g_iret X hr dX8_holderOf_33
    · have hf := zpos hq hf
      refine g_aload_n X 1 dX8_holderOf_23 rfl ?_
      obtain ⟨r_7, hr_7, hf⟩ := zbd hf
      refine g_get X zf8 hk1 1 (by decide) w_f_RX8_15 rfl (zfv_r hr_7 rfl) dX8_holderOf_24 ?_
      refine g_iload_n X 0 dX8_holderOf_27 rfl ?_
      obtain ⟨hk8, hf⟩ := zite hf
      obtain ⟨hi9, hf⟩ := zite hf
      refine g_iald X hk8 hi9 dX8_holderOf_28 ?_
      refine g_goto X 33 dX8_holderOf_29 (by decide) ?_
      obtain ⟨rfl, rfl⟩ := zsm hf
      exact g_iret X hr dX8_holderOf_33

set_option maxHeartbeats 4000000 in
set_option maxRecDepth 100000 in
theorem sX4_swapCards {l : Launch} {D : va_G} {cA : Nat → ClassId} {base : Nat} {sA : Nat → Nat} {r0 : Nat} {x1 : Int32} {h hE : Zh} (hf : fX4_swapCards r0 x1 h = some hE) : zC l yX4_swapCards cX4_swapCards 3 none 0 0 D cA base sA [.ref (base + r0), .int x1] h none hE := by
  refine g_entry RX4 (by decide) rfl (Nat.le_of_ble_eq_true rfl) ?_
  intro p e s m args below meth c X hr
  unfold fX4_swapCards at hf
  have hf := zlet_n (x := h) rfl hf
  show zG p l e { frames := 0, cells := 0, slots := 0, locals := 0 } s m args below meth c (MQ below (zQ D cA base h hE none) args s 0 0 (zA base)) 3 D cA base h 0 [(0, .ref (base + r0)), (1, .int x1)] [] h
  refine g_aload_n X 0 dX4_swapCards_0 rfl ?_
  obtain ⟨hk1, hf⟩ := zite hf
  obtain ⟨r_2, hr_2, hf⟩ := zbd hf
  refine g_get X zf4 hk1 10 (by decide) w_f_RX4_65 rfl (zfv_r hr_2 rfl) dX4_swapCards_1 ?_
  refine g_iload_n X 1 dX4_swapCards_4 rfl ?_
  obtain ⟨hk3, hf⟩ := zite hf
  obtain ⟨hi4, hf⟩ := zite hf
  refine g_iald X hk3 hi4 dX4_swapCards_5 ?_
  refine g_topi (fun y5 ey5 => ?_)
  have hf := zlet_n ey5 hf
  refine g_istore_n X [(2, .int y5), (0, .ref (base + r0)), (1, .int x1)] dX4_swapCards_6 (by decide) rfl ?_
  refine g_aload_n X 1 dX4_swapCards_7 rfl ?_
  obtain ⟨r_6, hr_6, hf⟩ := zbd hf
  refine g_get X zf4 hk1 10 (by decide) w_f_RX4_65 rfl (zfv_r hr_6 rfl) dX4_swapCards_8 ?_
  refine g_iload_n X 2 dX4_swapCards_11 rfl ?_
  refine g_aload_n X 1 dX4_swapCards_12 rfl ?_
  obtain ⟨r_7, hr_7, hf⟩ := zbd hf
  refine g_get X zf4 hk1 10 (by decide) w_f_RX4_65 rfl (zfv_r hr_7 rfl) dX4_swapCards_13 ?_
  refine g_iload_n X 2 dX4_swapCards_16 rfl ?_
  refine g_iconst X (v := 1) dX4_swapCards_17 (by decide) ?_
  refine g_iadd X dX4_swapCards_18 ?_
  obtain ⟨hk8, hf⟩ := zite hf
  obtain ⟨hi9, hf⟩ := zite hf
  refine g_iald X hk8 hi9 dX4_swapCards_19 ?_
  obtain ⟨hk10, hf⟩ := zite hf
  obtain ⟨hi11, hf⟩ := zite hf
  refine g_iast X hk10 hi11 dX4_swapCards_20 ?_
  refine g_hp (fun h12 eh12 => ?_)
  have hf := zlet_n eh12 hf
  refine g_aload_n X 1 dX4_swapCards_21 rfl ?_
  obtain ⟨r_13, hr_13, hf⟩ := zbd hf
  refine g_get X zf4 hk1 10 (by decide) w_f_RX4_65 rfl (zfv_r hr_13 rfl) dX4_swapCards_22 ?_
  refine g_iload_n X 2 dX4_swapCards_25 rfl ?_
  refine g_iconst X (v := 1) dX4_swapCards_26 (by decide) ?_
  refine g_iadd X dX4_swapCards_27 ?_
  refine g_iload_n X 0 dX4_swapCards_28 rfl ?_
  obtain ⟨hk14, hf⟩ := zite hf
  obtain ⟨hi15, hf⟩ := zite hf
  refine g_iast X hk14 hi15 dX4_swapCards_29 ?_
  refine g_hp (fun h16 eh16 => ?_)
  have hf := zlet_n eh16 hf
  cases hf
  exact g_vret X hr dX4_swapCards_30

set_option maxHeartbeats 4000000 in
set_option maxRecDepth 100000 in
theorem sX4_swapped {l : Launch} {D : va_G} {cA : Nat → ClassId} {base : Nat} {sA : Nat → Nat} {r0 : Nat} {x1 : Int32} {x2 : Int32} {h hE : Zh} {rE : Int32} (hf : fX4_swapped r0 x1 x2 h = some (rE, hE)) : zC l yX4_swapped cX4_swapped 5 (some .int) 2 46 D cA base sA [.ref (base + r0), .int x1, .int x2] h (some (.int rE)) hE := by
  refine g_entry RX4 (by decide) rfl (Nat.le_of_ble_eq_true rfl) ?_
  intro p e s m args below meth c X hr
  unfold fX4_swapped at hf
  have hf := zlet_n (x := h) rfl hf
  show zG p l e { frames := 2, cells := 0, slots := 0, locals := 46 } s m args below meth c (MQ below (zQ D cA base h hE (some (.int rE))) args s 0 0 (zA base)) 5 D cA base h 0 [(0, .ref (base + r0)), (1, .int x1), (2, .int x2)] [] h
  refine g_iload_n X 1 dX4_swapped_0 rfl ?_
  refine g_iload_n X 2 dX4_swapped_1 rfl ?_
  refine g_ishr X dX4_swapped_2 ?_
  refine g_iload_n X 1 dX4_swapped_3 rfl ?_
  refine g_iload_n X 2 dX4_swapped_4 rfl ?_
  refine g_iconst X (v := 1) dX4_swapped_5 (by decide) ?_
  refine g_iadd X dX4_swapped_6 ?_
  refine g_ishr X dX4_swapped_7 ?_
  refine g_ixor X dX4_swapped_8 ?_
  refine g_iconst X (v := 1) dX4_swapped_9 (by decide) ?_
  refine g_iand X dX4_swapped_10 ?_
  refine g_topi (fun y1 ey1 => ?_)
  have hf := zlet_n ey1 hf
  refine g_istore_n X [(3, .int y1), (0, .ref (base + r0)), (1, .int x1), (2, .int x2)] dX4_swapped_11 (by decide) rfl ?_
  refine g_aload_n X 1 dX4_swapped_12 rfl ?_
  refine g_iload_n X 3 dX4_swapped_13 rfl ?_
  obtain ⟨hk2, hf⟩ := zite hf
  obtain ⟨h3, hch3, hf⟩ := zbd hf
  refine g_callV X 1 (sX4_swapCards hch3) zf4 hk2 ydX4_swapCards w_ml_RX4_191 w_instanceMethod_X4_swapCards w_sel_X4_swapCards w_ini_RX4 w_code_X4_swapCards (by decide) rfl (st := []) rfl rfl (Nat.le_of_ble_eq_true rfl) dX4_swapped_14 ?_
  refine g_aload_n X 1 dX4_swapped_17 rfl ?_
  obtain ⟨r_4, hr_4, hf⟩ := zbd hf
  refine g_get X zf4 hk2 1 (by decide) w_f_RX4_18 rfl (zfv_r hr_4 rfl) dX4_swapped_18 ?_
  obtain ⟨hk5, hf⟩ := zite hf
  obtain ⟨r_6, hr_6, hf⟩ := zbd hf
  refine g_get X zf9 hk5 1 (by decide) w_f_RX4_68 rfl (zfv_r hr_6 rfl) dX4_swapped_21 ?_
  refine g_aload_n X 1 dX4_swapped_24 rfl ?_
  obtain ⟨r_7, hr_7, hf⟩ := zbd hf
  refine g_get X zf4 hk2 10 (by decide) w_f_RX4_65 rfl (zfv_r hr_7 rfl) dX4_swapped_25 ?_
  refine g_aload_n X 1 dX4_swapped_28 rfl ?_
  obtain ⟨r_8, hr_8, hf⟩ := zbd hf
  refine g_get X zf4 hk2 1 (by decide) w_f_RX4_18 rfl (zfv_r hr_8 rfl) dX4_swapped_29 ?_
  obtain ⟨hk9, hf⟩ := zite hf
  obtain ⟨r_10, hr_10, hf⟩ := zbd hf
  refine g_get X zf9 hk9 1 (by decide) w_f_RX4_68 rfl (zfv_r hr_10 rfl) dX4_swapped_32 ?_
  obtain ⟨hk11, hf⟩ := zite hf
  refine g_get X zf0 hk11 5 (by decide) w_f_RX4_182 rfl rfl dX4_swapped_35 ?_
  obtain ⟨hk12, hf⟩ := zite hf
  obtain ⟨v14, h13, hch13, hf⟩ := zc2_e hf
  refine g_callV X 2 (sX0_rowNumber hch13) zf0 hk12 ydX0_rowNumber w_ml_RX4_194 w_instanceMethod_X0_rowNumber w_sel_X0_rowNumber w_ini_RX0 w_code_X0_rowNumber (by decide) rfl (st := []) rfl rfl (Nat.le_of_ble_eq_true rfl) dX4_swapped_38 ?_
  refine g_istore X [(4, .int v14), (3, .int y1), (0, .ref (base + r0)), (1, .int x1), (2, .int x2)] dX4_swapped_41 (by decide) rfl ?_
  refine g_aload_n X 2 dX4_swapped_43 rfl ?_
  refine g_iload_n X 4 dX4_swapped_44 rfl ?_
  obtain ⟨h15, hch15, hf⟩ := zbd hf
  refine g_callV X 1 (sX4_swapCards hch15) zf4 hk2 ydX4_swapCards w_ml_RX4_191 w_instanceMethod_X4_swapCards w_sel_X4_swapCards w_ini_RX4 w_code_X4_swapCards (by decide) rfl (st := []) rfl rfl (Nat.le_of_ble_eq_true rfl) dX4_swapped_45 ?_
  refine g_iload X 0 dX4_swapped_48 rfl ?_
  refine g_aload_n X 2 dX4_swapped_50 rfl ?_
  obtain ⟨r_16, hr_16, hf⟩ := zbd hf
  refine g_get X zf4 hk2 1 (by decide) w_f_RX4_18 rfl (zfv_r hr_16 rfl) dX4_swapped_51 ?_
  obtain ⟨hk17, hf⟩ := zite hf
  obtain ⟨r_18, hr_18, hf⟩ := zbd hf
  refine g_get X zf9 hk17 1 (by decide) w_f_RX4_68 rfl (zfv_r hr_18 rfl) dX4_swapped_54 ?_
  obtain ⟨hk19, hf⟩ := zite hf
  refine g_get X zf0 hk19 12 (by decide) w_f_RX4_185 rfl rfl dX4_swapped_57 ?_
  refine g_imul X dX4_swapped_60 ?_
  refine g_iload_n X 3 dX4_swapped_61 rfl ?_
  refine g_iload_n X 1 dX4_swapped_62 rfl ?_
  refine g_iconst X (v := 3) dX4_swapped_63 (by decide) ?_
  refine g_iload_n X 4 dX4_swapped_64 rfl ?_
  refine g_ishl X dX4_swapped_65 ?_
  refine g_imul X dX4_swapped_66 ?_
  refine g_ixor X dX4_swapped_67 ?_
  refine g_iadd X dX4_swapped_68 ?_
  obtain ⟨rfl, rfl⟩ := zsm hf
  exact g_iret X hr dX4_swapped_69

set_option maxHeartbeats 4000000 in
set_option maxRecDepth 100000 in
theorem sX4_noSwap {l : Launch} {D : va_G} {cA : Nat → ClassId} {base : Nat} {sA : Nat → Nat} {r0 : Nat} {r1 : Nat} {x2 : Int32} {h hE : Zh} {rE : Int32} (hf : fX4_noSwap r0 r1 x2 h = some (rE, hE)) : zC l yX4_noSwap cX4_noSwap 7 (some .boolean) 3 70 D cA base sA [.ref (base + r0), .ref (base + r1), .int x2] h (some (.int rE)) hE := by
  refine g_entry RX4 (by decide) rfl (Nat.le_of_ble_eq_true rfl) ?_
  intro p e s m args below meth c X hr
  unfold fX4_noSwap at hf
  have hf := zlet_n (x := h) rfl hf
  show zG p l e { frames := 3, cells := 0, slots := 0, locals := 70 } s m args below meth c (MQ below (zQ D cA base h hE (some (.int rE))) args s 0 0 (zA base)) 7 D cA base h 0 [(0, .ref (base + r0)), (1, .ref (base + r1)), (2, .int x2)] [] h
  refine g_iconst X (v := 0) dX4_noSwap_0 (by decide) ?_
  refine g_istore_n X [(3, .int ((0 : Int32))), (0, .ref (base + r0)), (1, .ref (base + r1)), (2, .int x2)] dX4_noSwap_1 (by decide) rfl ?_
  refine g_sub [1, 2, 3, 0] rfl ?_
  obtain ⟨qq, hlp, hf⟩ := zbd hf
  refine lp_snd (body := (fun q : Int32 × Zh => bX4_noSwap_2 h r0 r1 x2 q.1 q.2)) (P := (fun q : Int32 × Zh => zG p l e { frames := 3, cells := 0, slots := 0, locals := 70 } s m args below meth c (MQ below (zQ D cA base h hE (some (.int rE))) args s 0 0 (zA base)) 7 D cA base h 2 [(0, .ref (base + r0)), (1, .ref (base + r1)), (2, .int x2), (3, .int q.1)] [] q.2)) (E := (fun (en : Nat) (q : Int32 × Zh) => if en = 1 then zG p l e { frames := 3, cells := 0, slots := 0, locals := 70 } s m args below meth c (MQ below (zQ D cA base h hE (some (.int rE))) args s 0 0 (zA base)) 7 D cA base h 131 [] [] q.2 else zG p l e { frames := 3, cells := 0, slots := 0, locals := 70 } s m args below meth c (MQ below (zQ D cA base h hE (some (.int rE))) args s 0 0 (zA base)) 7 D cA base h 145 [] [] q.2)) ?_ zB ((0 : Int32), h) qq.1 qq.2 hlp ?_
  · intro q e_2 q_2 hf hc0 hc1
    obtain ⟨x3_2, h_2⟩ := q
    have hf : bX4_noSwap_2 h r0 r1 x2 x3_2 h_2 = some (e_2, q_2) := hf
    unfold bX4_noSwap_2 at hf
    show zG p l e { frames := 3, cells := 0, slots := 0, locals := 70 } s m args below meth c (MQ below (zQ D cA base h hE (some (.int rE))) args s 0 0 (zA base)) 7 D cA base h 2 [(0, .ref (base + r0)), (1, .ref (base + r1)), (2, .int x2), (3, .int x3_2)] [] h_2
    refine g_iload_n X 3 dX4_noSwap_2 rfl ?_
    refine g_aload_n X 0 dX4_noSwap_3 rfl ?_
    obtain ⟨hk1, hf⟩ := zite hf
    obtain ⟨r_2, hr_2, hf⟩ := zbd hf
    refine g_get X zf4 hk1 1 (by decide) w_f_RX4_18 rfl (zfv_r hr_2 rfl) dX4_noSwap_4 ?_
    obtain ⟨hk3, hf⟩ := zite hf
    obtain ⟨r_4, hr_4, hf⟩ := zbd hf
    refine g_get X zf9 hk3 1 (by decide) w_f_RX4_68 rfl (zfv_r hr_4 rfl) dX4_noSwap_7 ?_
    obtain ⟨hk5, hf⟩ := zite hf
    refine g_get X zf0 hk5 9 (by decide) w_f_RX4_115 rfl rfl dX4_noSwap_10 ?_
    refine g_icmp_ge X 145 dX4_noSwap_13 (by decide) (fun hq => ?_) (fun hq => ?_)
    · have hf := zpos hq hf
      cases hf
      have hc1 := hc1 (by decide)
      exact g_sub [] rfl (zun_n (by decide) hc1)
    · have hf := zneg hq hf
      refine g_aload_n X 1 dX4_noSwap_16 rfl ?_
      obtain ⟨hk6, hf⟩ := zite hf
      obtain ⟨r_7, hr_7, hf⟩ := zbd hf
      refine g_get X zf2 hk6 1 (by decide) w_f_RX4_138 rfl (zfv_r hr_7 rfl) dX4_noSwap_17 ?_
      refine g_iload_n X 3 dX4_noSwap_20 rfl ?_
      obtain ⟨hk8, hf⟩ := zite hf
      obtain ⟨hi9, hf⟩ := zite hf
      refine g_iald X hk8 hi9 dX4_noSwap_21 ?_
      refine g_topi (fun y10 ey10 => ?_)
      have hf := zlet_n ey10 hf
      refine g_istore X [(4, .int y10), (0, .ref (base + r0)), (1, .ref (base + r1)), (2, .int x2), (3, .int x3_2)] dX4_noSwap_22 (by decide) rfl ?_
      refine g_iload X 0 dX4_noSwap_24 rfl ?_
      refine g_if_lt X 139 dX4_noSwap_26 (by decide) (fun hq => ?_) (fun hq => ?_)
      · have hf := zpos hq hf
        obtain ⟨y11, ey11⟩ : ∃ y : Int32, y = x3_2 + (1 : Int32) := ⟨_, rfl⟩
        have hf := zlet_n ey11 hf
        refine g_iinc X (j := 4) [(3, .int y11), (4, .int y10), (0, .ref (base + r0)), (1, .ref (base + r1)), (2, .int x2)] dX4_noSwap_139 rfl (by rw [ey11]; rfl) (by decide) rfl ?_
        refine g_goto X 2 dX4_noSwap_142 (by decide) ?_
        cases hf
        exact g_sub [2, 3, 4, 0] rfl (hc0 rfl)
      · have hf := zneg hq hf
        refine g_aload_n X 1 dX4_noSwap_29 rfl ?_
        obtain ⟨r_12, hr_12, hf⟩ := zbd hf
        refine g_get X zf4 hk1 4 (by decide) w_f_RX4_39 rfl (zfv_r hr_12 rfl) dX4_noSwap_30 ?_
        refine g_iload X 0 dX4_noSwap_33 rfl ?_
        obtain ⟨hk13, hf⟩ := zite hf
        obtain ⟨v15, h14, hch14, hf⟩ := zc2_e hf
        refine g_callV X 1 (sX8_holderOf hch14) zf8 hk13 ydX8_holderOf w_ml_RX4_175 w_instanceMethod_X8_holderOf w_sel_X8_holderOf w_ini_RX8 w_code_X8_holderOf (by decide) rfl (st := []) rfl rfl (Nat.le_of_ble_eq_true rfl) dX4_noSwap_35 ?_
        refine g_iload_n X 4 dX4_noSwap_38 rfl ?_
        refine g_icmp_eq X 45 dX4_noSwap_39 (by decide) (fun hq => ?_) (fun hq => ?_)
        · have hf := zpos hq hf
          refine g_aload_n X 1 dX4_noSwap_45 rfl ?_
          obtain ⟨r_16, hr_16, hf⟩ := zbd hf
          refine g_get X zf4 hk1 1 (by decide) w_f_RX4_18 rfl (zfv_r hr_16 rfl) dX4_noSwap_46 ?_
          obtain ⟨hk17, hf⟩ := zite hf
          obtain ⟨r_18, hr_18, hf⟩ := zbd hf
          refine g_get X zf9 hk17 1 (by decide) w_f_RX4_68 rfl (zfv_r hr_18 rfl) dX4_noSwap_49 ?_
          refine g_iload X 0 dX4_noSwap_52 rfl ?_
          refine g_aload_n X 1 dX4_noSwap_54 rfl ?_
          obtain ⟨r_19, hr_19, hf⟩ := zbd hf
          refine g_get X zf4 hk1 10 (by decide) w_f_RX4_65 rfl (zfv_r hr_19 rfl) dX4_noSwap_55 ?_
          obtain ⟨hk20, hf⟩ := zite hf
          obtain ⟨h21, hch21, hf⟩ := zbd hf
          refine g_callV X 2 (sX0_unpackRow hch21) zf0 hk20 ydX0_unpackRow w_ml_RX4_178 w_instanceMethod_X0_unpackRow w_sel_X0_unpackRow w_ini_RX0 w_code_X0_unpackRow (by decide) rfl (st := []) rfl rfl (Nat.le_of_ble_eq_true rfl) dX4_noSwap_58 ?_
          refine g_iconst X (v := 0) dX4_noSwap_61 (by decide) ?_
          refine g_istore X [(5, .int ((0 : Int32))), (4, .int y10), (0, .ref (base + r0)), (1, .ref (base + r1)), (2, .int x2), (3, .int x3_2)] dX4_noSwap_62 (by decide) rfl ?_
          refine g_sub [2, 3, 4, 5, 1, 0] rfl ?_
          obtain ⟨qq, hlp, hf⟩ := zbd hf
          refine lp_snd (body := (fun q : Int32 × Zh => bX4_noSwap_64 h r0 x2 x3_2 y10 q.1 q.2)) (P := (fun q : Int32 × Zh => zG p l e { frames := 3, cells := 0, slots := 0, locals := 70 } s m args below meth c (MQ below (zQ D cA base h hE (some (.int rE))) args s 0 0 (zA base)) 7 D cA base h 64 [(0, .ref (base + r0)), (1, .ref (base + r1)), (2, .int x2), (3, .int x3_2), (4, .int y10), (5, .int q.1)] [] q.2)) (E := (fun (en : Nat) (q : Int32 × Zh) => if en = 1 then zG p l e { frames := 3, cells := 0, slots := 0, locals := 70 } s m args below meth c (MQ below (zQ D cA base h hE (some (.int rE))) args s 0 0 (zA base)) 7 D cA base h 131 [] [] q.2 else zG p l e { frames := 3, cells := 0, slots := 0, locals := 70 } s m args below meth c (MQ below (zQ D cA base h hE (some (.int rE))) args s 0 0 (zA base)) 7 D cA base h 139 [(0, .ref (base + r0)), (1, .ref (base + r1)), (2, .int x2), (3, .int x3_2)] [] q.2)) ?_ zB ((0 : Int32), h21) qq.1 qq.2 hlp ?_
          · intro q e_64 q_64 hf hc0 hc1
            obtain ⟨x5_64, h_64⟩ := q
            have hf : bX4_noSwap_64 h r0 x2 x3_2 y10 x5_64 h_64 = some (e_64, q_64) := hf
            unfold bX4_noSwap_64 at hf
            show zG p l e { frames := 3, cells := 0, slots := 0, locals := 70 } s m args below meth c (MQ below (zQ D cA base h hE (some (.int rE))) args s 0 0 (zA base)) 7 D cA base h 64 [(0, .ref (base + r0)), (1, .ref (base + r1)), (2, .int x2), (3, .int x3_2), (4, .int y10), (5, .int x5_64)] [] h_64
            refine g_iload X 5 dX4_noSwap_64 rfl ?_
            refine g_iconst X (v := 1) dX4_noSwap_66 (by decide) ?_
            refine g_iadd X dX4_noSwap_67 ?_
            refine g_aload_n X 0 dX4_noSwap_68 rfl ?_
            obtain ⟨r_22, hr_22, hf⟩ := zbd hf
            refine g_get X zf4 hk1 1 (by decide) w_f_RX4_18 rfl (zfv_r hr_22 rfl) dX4_noSwap_69 ?_
            obtain ⟨hk23, hf⟩ := zite hf
            obtain ⟨r_24, hr_24, hf⟩ := zbd hf
            refine g_get X zf9 hk23 1 (by decide) w_f_RX4_68 rfl (zfv_r hr_24 rfl) dX4_noSwap_72 ?_
            obtain ⟨hk25, hf⟩ := zite hf
            refine g_get X zf0 hk25 5 (by decide) w_f_RX4_182 rfl rfl dX4_noSwap_75 ?_
            refine g_icmp_ge X 139 dX4_noSwap_78 (by decide) (fun hq => ?_) (fun hq => ?_)
            · have hf := zpos hq hf
              cases hf
              have hc1 := hc1 (by decide)
              exact g_sub [0, 1, 2, 3] rfl (zun_n (by decide) hc1)
            · have hf := zneg hq hf
              refine g_aload_n X 0 dX4_noSwap_81 rfl ?_
              refine g_iload X 4 dX4_noSwap_82 rfl ?_
              refine g_aload_n X 0 dX4_noSwap_84 rfl ?_
              obtain ⟨r_26, hr_26, hf⟩ := zbd hf
              refine g_get X zf4 hk1 1 (by decide) w_f_RX4_18 rfl (zfv_r hr_26 rfl) dX4_noSwap_85 ?_
              obtain ⟨hk27, hf⟩ := zite hf
              obtain ⟨r_28, hr_28, hf⟩ := zbd hf
              refine g_get X zf9 hk27 1 (by decide) w_f_RX4_68 rfl (zfv_r hr_28 rfl) dX4_noSwap_88 ?_
              obtain ⟨hk29, hf⟩ := zite hf
              refine g_get X zf0 hk29 12 (by decide) w_f_RX4_185 rfl rfl dX4_noSwap_91 ?_
              obtain ⟨hn30, hf⟩ := zite hf
              refine g_irem X hn30 dX4_noSwap_94 ?_
              refine g_iload X 5 dX4_noSwap_95 rfl ?_
              obtain ⟨v32, h31, hch31, hf⟩ := zc2_e hf
              refine g_callV X 2 (sX4_swapped hch31) zf4 hk1 ydX4_swapped w_ml_RX4_188 w_instanceMethod_X4_swapped w_sel_X4_swapped w_ini_RX4 w_code_X4_swapped (by decide) rfl (st := []) rfl rfl (Nat.le_of_ble_eq_true rfl) dX4_noSwap_97 ?_
              refine g_istore X [(6, .int v32), (0, .ref (base + r0)), (1, .ref (base + r1)), (2, .int x2), (3, .int x3_2), (4, .int y10), (5, .int x5_64)] dX4_noSwap_100 (by decide) rfl ?_
              refine g_iload_n X 3 dX4_noSwap_102 rfl ?_
              have hJ128 : ∀ (x5_128 : Int32) (t0_128 : Int32) (h_128 : Zh), jX4_noSwap_128 h r0 x2 x3_2 y10 x5_128 t0_128 h_128 = some (e_64, q_64) → zG p l e { frames := 3, cells := 0, slots := 0, locals := 70 } s m args below meth c (MQ below (zQ D cA base h hE (some (.int rE))) args s 0 0 (zA base)) 7 D cA base h 128 [(0, .ref (base + r0)), (1, .ref (base + r1)), (2, .int x2), (3, .int x3_2), (4, .int y10), (5, .int x5_128)] [.int t0_128] h_128 := by
                intro x5_128 t0_128 h_128 hf
                unfold jX4_noSwap_128 at hf
                refine g_if_lt X 133 dX4_noSwap_128 (by decide) (fun hq => ?_) (fun hq => ?_)
                · have hf := zpos hq hf
                  obtain ⟨y33, ey33⟩ : ∃ y : Int32, y = x5_128 + (1 : Int32) := ⟨_, rfl⟩
                  have hf := zlet_n ey33 hf
                  refine g_iinc X (j := 5) [(5, .int y33), (0, .ref (base + r0)), (1, .ref (base + r1)), (2, .int x2), (3, .int x3_2), (4, .int y10)] dX4_noSwap_133 rfl (by rw [ey33]; rfl) (by decide) rfl ?_
                  refine g_goto X 64 dX4_noSwap_136 (by decide) ?_
                  cases hf
                  exact g_sub [1, 2, 3, 4, 5, 0] rfl (hc0 rfl)
                · have hf := zneg hq hf
                  cases hf
                  have hc1 := hc1 (by decide)
                  exact g_sub [] rfl (zun_p rfl hc1)
              refine g_if_eq X 119 dX4_noSwap_103 (by decide) (fun hq => ?_) (fun hq => ?_)
              · have hf := zpos hq hf
                refine g_aload_n X 1 dX4_noSwap_119 rfl ?_
                obtain ⟨r_34, hr_34, hf⟩ := zbd hf
                refine g_get X zf4 hk1 4 (by decide) w_f_RX4_39 rfl (zfv_r hr_34 rfl) dX4_noSwap_120 ?_
                refine g_iload X 0 dX4_noSwap_123 rfl ?_
                obtain ⟨hk35, hf⟩ := zite hf
                obtain ⟨v37, h36, hch36, hf⟩ := zc2_e hf
                refine g_callV X 1 (sX8_holderOf hch36) zf8 hk35 ydX8_holderOf w_ml_RX4_175 w_instanceMethod_X8_holderOf w_sel_X8_holderOf w_ini_RX8 w_code_X8_holderOf (by decide) rfl (st := []) rfl rfl (Nat.le_of_ble_eq_true rfl) dX4_noSwap_125 ?_
                refine g_sub [1, 2, 3, 4, 5, 6] rfl ?_
                exact hJ128 _ _ _ hf
              · have hf := zneg hq hf
                refine g_aload_n X 1 dX4_noSwap_106 rfl ?_
                obtain ⟨r_38, hr_38, hf⟩ := zbd hf
                refine g_get X zf4 hk1 4 (by decide) w_f_RX4_39 rfl (zfv_r hr_38 rfl) dX4_noSwap_107 ?_
                refine g_iload X 0 dX4_noSwap_110 rfl ?_
                refine g_iload_n X 4 dX4_noSwap_112 rfl ?_
                obtain ⟨hk39, hf⟩ := zite hf
                obtain ⟨v41, h40, hch40, hf⟩ := zc2_e hf
                refine g_callV X 2 (sX8_put hch40) zf8 hk39 ydX8_put w_ml_RX4_144 w_instanceMethod_X8_put w_sel_X8_put w_ini_RX8 w_code_X8_put (by decide) rfl (st := []) rfl rfl (Nat.le_of_ble_eq_true rfl) dX4_noSwap_113 ?_
                refine g_goto X 128 dX4_noSwap_116 (by decide) ?_
                refine g_sub [1, 2, 3, 4, 5, 6] rfl ?_
                exact hJ128 _ _ _ hf
          · obtain ⟨ee, x5_k64, h_k64⟩ := qq
            have hf : kX4_noSwap_64 h r0 r1 x2 x3_2 ee x5_k64 h_k64 = some (e_2, q_2) := hf
            unfold kX4_noSwap_64 at hf
            by_cases hee0 : ee = 1
            · have hf := zpos hee0 hf
              refine zifp hee0 ?_
              show zG p l e { frames := 3, cells := 0, slots := 0, locals := 70 } s m args below meth c (MQ below (zQ D cA base h hE (some (.int rE))) args s 0 0 (zA base)) 7 D cA base h 131 [] [] h_k64
              cases hf
              have hc1 := hc1 (by decide)
              exact g_sub [] rfl (zun_p rfl hc1)
            have hf := zneg hee0 hf
            refine zifn hee0 ?_
            show zG p l e { frames := 3, cells := 0, slots := 0, locals := 70 } s m args below meth c (MQ below (zQ D cA base h hE (some (.int rE))) args s 0 0 (zA base)) 7 D cA base h 139 [(0, .ref (base + r0)), (1, .ref (base + r1)), (2, .int x2), (3, .int x3_2)] [] h_k64
            obtain ⟨y42, ey42⟩ : ∃ y : Int32, y = x3_2 + (1 : Int32) := ⟨_, rfl⟩
            have hf := zlet_n ey42 hf
            refine g_iinc X (j := 3) [(3, .int y42), (0, .ref (base + r0)), (1, .ref (base + r1)), (2, .int x2)] dX4_noSwap_139 rfl (by rw [ey42]; rfl) (by decide) rfl ?_
            refine g_goto X 2 dX4_noSwap_142 (by decide) ?_
            cases hf
            exact g_sub [1, 2, 3, 0] rfl (hc0 rfl)
        · have hf := zneg hq hf
          refine g_goto X 139 dX4_noSwap_42 (by decide) ?_
          obtain ⟨y43, ey43⟩ : ∃ y : Int32, y = x3_2 + (1 : Int32) := ⟨_, rfl⟩
          have hf := zlet_n ey43 hf
          refine g_iinc X (j := 4) [(3, .int y43), (4, .int y10), (0, .ref (base + r0)), (1, .ref (base + r1)), (2, .int x2)] dX4_noSwap_139 rfl (by rw [ey43]; rfl) (by decide) rfl ?_
          refine g_goto X 2 dX4_noSwap_142 (by decide) ?_
          cases hf
          exact g_sub [2, 3, 4, 0] rfl (hc0 rfl)
  · obtain ⟨ee, x3_k2, h_k2⟩ := qq
    have hf : kX4_noSwap_2 h ee x3_k2 h_k2 = some (rE, hE) := hf
    unfold kX4_noSwap_2 at hf
    by_cases hee0 : ee = 1
    · have hf := zpos hee0 hf
      refine zifp hee0 ?_
      show zG p l e { frames := 3, cells := 0, slots := 0, locals := 70 } s m args below meth c (MQ below (zQ D cA base h hE (some (.int rE))) args s 0 0 (zA base)) 7 D cA base h 131 [] [] h_k2
      refine g_iconst X (v := 0) dX4_noSwap_131 (by decide) ?_
      obtain ⟨rfl, rfl⟩ := zsm hf
      exact g_zret X (Or.inl rfl) hr dX4_noSwap_132
    have hf := zneg hee0 hf
    refine zifn hee0 ?_
    show zG p l e { frames := 3, cells := 0, slots := 0, locals := 70 } s m args below meth c (MQ below (zQ D cA base h hE (some (.int rE))) args s 0 0 (zA base)) 7 D cA base h 145 [] [] h_k2
    refine g_iconst X (v := 1) dX4_noSwap_145 (by decide) ?_
    obtain ⟨rfl, rfl⟩ := zsm hf
    exact g_zret X (Or.inr rfl) hr dX4_noSwap_146

set_option maxHeartbeats 4000000 in
set_option maxRecDepth 100000 in
theorem sX4_swapsJudged {l : Launch} {D : va_G} {cA : Nat → ClassId} {base : Nat} {sA : Nat → Nat} {r0 : Nat} {r1 : Nat} {h hE : Zh} {rE : Nat} (hf : fX4_swapsJudged r0 r1 h = some (rE, hE)) : zC l yX4_swapsJudged cX4_swapsJudged 3 (some (.object "FifthCard$Laid")) 4 96 D cA base sA [.ref (base + r0), .ref (base + r1)] h (some (.ref (base + rE))) hE := by
  refine g_entry RX4 (by decide) rfl (Nat.le_of_ble_eq_true rfl) ?_
  intro p e s m args below meth c X hr
  unfold fX4_swapsJudged at hf
  have hf := zlet_n (x := h) rfl hf
  show zG p l e { frames := 4, cells := 0, slots := 0, locals := 96 } s m args below meth c (MQ below (zQ D cA base h hE (some (.ref (base + rE)))) args s 0 0 (zA base)) 3 D cA base h 0 [(0, .ref (base + r0)), (1, .ref (base + r1))] [] h
  refine g_aload_n X 1 dX4_swapsJudged_0 rfl ?_
  obtain ⟨hk1, hf⟩ := zite hf
  refine g_get X zf2 hk1 7 (by decide) w_f_RX4_162 rfl rfl dX4_swapsJudged_1 ?_
  refine g_if_ne X 100 dX4_swapsJudged_4 (by decide) (fun hq => ?_) (fun hq => ?_)
  · have hf := zneg hq hf
    refine g_aload_n X 1 dX4_swapsJudged_100 rfl ?_
    obtain ⟨rfl, rfl⟩ := zsm hf
    exact g_aret X hr (Or.inl ⟨_, rfl⟩) dX4_swapsJudged_101
  · have hf := zpos hq hf
    refine g_aload_n X 1 dX4_swapsJudged_7 rfl ?_
    refine g_iconst X (v := 1) dX4_swapsJudged_8 (by decide) ?_
    refine g_putZ X zf2 hk1 (Or.inr rfl) 7 (by decide) w_f_RX4_162 rfl rfl rfl dX4_swapsJudged_9 ?_
    refine g_hp (fun h2 eh2 => ?_)
    have hf := zlet_n eh2 hf
    refine g_aload_n X 0 dX4_swapsJudged_12 rfl ?_
    obtain ⟨hk3, hf⟩ := zite hf
    obtain ⟨r_4, hr_4, hf⟩ := zbd hf
    refine g_get X zf4 hk3 4 (by decide) w_f_RX4_39 rfl (zfv_r hr_4 rfl) dX4_swapsJudged_13 ?_
    obtain ⟨hk5, hf⟩ := zite hf
    obtain ⟨h6, hch6, hf⟩ := zbd hf
    refine g_callV X 0 (sX8_clear hch6) zf8 hk5 ydX8_clear w_ml_RX4_114 w_instanceMethod_X8_clear w_sel_X8_clear w_ini_RX8 w_code_X8_clear (by decide) rfl (st := []) rfl rfl (Nat.le_of_ble_eq_true rfl) dX4_swapsJudged_16 ?_
    refine g_iconst X (v := 0) dX4_swapsJudged_19 (by decide) ?_
    refine g_istore_n X [(2, .int ((0 : Int32))), (0, .ref (base + r0)), (1, .ref (base + r1))] dX4_swapsJudged_20 (by decide) rfl ?_
    refine g_sub [1, 2, 0] rfl ?_
    obtain ⟨qq, hlp, hf⟩ := zbd hf
    refine lp_snd (body := (fun q : Int32 × Zh => bX4_swapsJudged_21 h r0 r1 q.1 q.2)) (P := (fun q : Int32 × Zh => zG p l e { frames := 4, cells := 0, slots := 0, locals := 96 } s m args below meth c (MQ below (zQ D cA base h hE (some (.ref (base + rE)))) args s 0 0 (zA base)) 3 D cA base h 21 [(0, .ref (base + r0)), (1, .ref (base + r1)), (2, .int q.1)] [] q.2)) (E := (fun (en : Nat) (q : Int32 × Zh) => zG p l e { frames := 4, cells := 0, slots := 0, locals := 96 } s m args below meth c (MQ below (zQ D cA base h hE (some (.ref (base + rE)))) args s 0 0 (zA base)) 3 D cA base h 65 [(0, .ref (base + r0)), (1, .ref (base + r1))] [] q.2)) ?_ zB ((0 : Int32), h6) qq.1 qq.2 hlp ?_
    · intro q e_21 q_21 hf hc0 hc1
      obtain ⟨x2_21, h_21⟩ := q
      have hf : bX4_swapsJudged_21 h r0 r1 x2_21 h_21 = some (e_21, q_21) := hf
      unfold bX4_swapsJudged_21 at hf
      show zG p l e { frames := 4, cells := 0, slots := 0, locals := 96 } s m args below meth c (MQ below (zQ D cA base h hE (some (.ref (base + rE)))) args s 0 0 (zA base)) 3 D cA base h 21 [(0, .ref (base + r0)), (1, .ref (base + r1)), (2, .int x2_21)] [] h_21
      refine g_iload_n X 2 dX4_swapsJudged_21 rfl ?_
      refine g_aload_n X 0 dX4_swapsJudged_22 rfl ?_
      obtain ⟨r_7, hr_7, hf⟩ := zbd hf
      refine g_get X zf4 hk3 1 (by decide) w_f_RX4_18 rfl (zfv_r hr_7 rfl) dX4_swapsJudged_23 ?_
      obtain ⟨hk8, hf⟩ := zite hf
      obtain ⟨r_9, hr_9, hf⟩ := zbd hf
      refine g_get X zf9 hk8 1 (by decide) w_f_RX4_68 rfl (zfv_r hr_9 rfl) dX4_swapsJudged_26 ?_
      obtain ⟨hk10, hf⟩ := zite hf
      refine g_get X zf0 hk10 9 (by decide) w_f_RX4_115 rfl rfl dX4_swapsJudged_29 ?_
      refine g_icmp_ge X 65 dX4_swapsJudged_32 (by decide) (fun hq => ?_) (fun hq => ?_)
      · have hf := zpos hq hf
        cases hf
        have hc1 := hc1 (by decide)
        exact g_sub [0, 1] rfl hc1
      · have hf := zneg hq hf
        refine g_aload_n X 1 dX4_swapsJudged_35 rfl ?_
        obtain ⟨r_11, hr_11, hf⟩ := zbd hf
        refine g_get X zf2 hk1 1 (by decide) w_f_RX4_138 rfl (zfv_r hr_11 rfl) dX4_swapsJudged_36 ?_
        refine g_iload_n X 2 dX4_swapsJudged_39 rfl ?_
        obtain ⟨hk12, hf⟩ := zite hf
        obtain ⟨hi13, hf⟩ := zite hf
        refine g_iald X hk12 hi13 dX4_swapsJudged_40 ?_
        refine g_if_lt X 59 dX4_swapsJudged_41 (by decide) (fun hq => ?_) (fun hq => ?_)
        · have hf := zpos hq hf
          obtain ⟨y14, ey14⟩ : ∃ y : Int32, y = x2_21 + (1 : Int32) := ⟨_, rfl⟩
          have hf := zlet_n ey14 hf
          refine g_iinc X (j := 2) [(2, .int y14), (0, .ref (base + r0)), (1, .ref (base + r1))] dX4_swapsJudged_59 rfl (by rw [ey14]; rfl) (by decide) rfl ?_
          refine g_goto X 21 dX4_swapsJudged_62 (by decide) ?_
          cases hf
          exact g_sub [1, 2, 0] rfl (hc0 rfl)
        · have hf := zneg hq hf
          refine g_aload_n X 0 dX4_swapsJudged_44 rfl ?_
          obtain ⟨r_15, hr_15, hf⟩ := zbd hf
          refine g_get X zf4 hk3 4 (by decide) w_f_RX4_39 rfl (zfv_r hr_15 rfl) dX4_swapsJudged_45 ?_
          refine g_aload_n X 1 dX4_swapsJudged_48 rfl ?_
          obtain ⟨r_16, hr_16, hf⟩ := zbd hf
          refine g_get X zf2 hk1 1 (by decide) w_f_RX4_138 rfl (zfv_r hr_16 rfl) dX4_swapsJudged_49 ?_
          refine g_iload_n X 2 dX4_swapsJudged_52 rfl ?_
          obtain ⟨hk17, hf⟩ := zite hf
          obtain ⟨hi18, hf⟩ := zite hf
          refine g_iald X hk17 hi18 dX4_swapsJudged_53 ?_
          refine g_iload_n X 2 dX4_swapsJudged_54 rfl ?_
          obtain ⟨hk19, hf⟩ := zite hf
          obtain ⟨v21, h20, hch20, hf⟩ := zc2_e hf
          refine g_callV X 2 (sX8_put hch20) zf8 hk19 ydX8_put w_ml_RX4_144 w_instanceMethod_X8_put w_sel_X8_put w_ini_RX8 w_code_X8_put (by decide) rfl (st := []) rfl rfl (Nat.le_of_ble_eq_true rfl) dX4_swapsJudged_55 ?_
          refine g_pop X dX4_swapsJudged_58 rfl ?_
          obtain ⟨y22, ey22⟩ : ∃ y : Int32, y = x2_21 + (1 : Int32) := ⟨_, rfl⟩
          have hf := zlet_n ey22 hf
          refine g_iinc X (j := 2) [(2, .int y22), (0, .ref (base + r0)), (1, .ref (base + r1))] dX4_swapsJudged_59 rfl (by rw [ey22]; rfl) (by decide) rfl ?_
          refine g_goto X 21 dX4_swapsJudged_62 (by decide) ?_
          cases hf
          exact g_sub [1, 2, 0] rfl (hc0 rfl)
    · obtain ⟨ee, x2_k21, h_k21⟩ := qq
      have hf : kX4_swapsJudged_21 h r0 r1 ee x2_k21 h_k21 = some (rE, hE) := hf
      unfold kX4_swapsJudged_21 at hf
      show zG p l e { frames := 4, cells := 0, slots := 0, locals := 96 } s m args below meth c (MQ below (zQ D cA base h hE (some (.ref (base + rE)))) args s 0 0 (zA base)) 3 D cA base h 65 [(0, .ref (base + r0)), (1, .ref (base + r1))] [] h_k21
      refine g_aload_n X 1 dX4_swapsJudged_65 rfl ?_
      refine g_aload_n X 0 dX4_swapsJudged_66 rfl ?_
      refine g_aload_n X 1 dX4_swapsJudged_67 rfl ?_
      refine g_iconst X (v := 0) dX4_swapsJudged_68 (by decide) ?_
      obtain ⟨v24, h23, hch23, hf⟩ := zc2_e hf
      refine g_callV X 2 (sX4_noSwap hch23) zf4 hk3 ydX4_noSwap w_ml_RX4_165 w_instanceMethod_X4_noSwap w_sel_X4_noSwap w_ini_RX4 w_code_X4_noSwap (by decide) rfl (st := [.ref (base + r1)]) rfl rfl (Nat.le_of_ble_eq_true rfl) dX4_swapsJudged_69 ?_
      obtain ⟨hb26, hf⟩ := zite hf
      refine g_putZ X zf2 hk1 hb26 8 (by decide) w_f_RX4_169 rfl rfl rfl dX4_swapsJudged_72 ?_
      refine g_hp (fun h25 eh25 => ?_)
      have hf := zlet_n eh25 hf
      refine g_aload_n X 1 dX4_swapsJudged_75 rfl ?_
      refine g_aload_n X 1 dX4_swapsJudged_76 rfl ?_
      refine g_get X zf2 hk1 8 (by decide) w_f_RX4_169 rfl rfl dX4_swapsJudged_77 ?_
      refine g_if_eq X 96 dX4_swapsJudged_80 (by decide) (fun hq => ?_) (fun hq => ?_)
      · have hf := zpos hq hf
        refine g_iconst X (v := 0) dX4_swapsJudged_96 (by decide) ?_
        refine g_putZ X zf2 hk1 (Or.inl rfl) 9 (by decide) w_f_RX4_172 rfl rfl rfl dX4_swapsJudged_97 ?_
        refine g_hp (fun h27 eh27 => ?_)
        have hf := zlet_n eh27 hf
        refine g_aload_n X 1 dX4_swapsJudged_100 rfl ?_
        obtain ⟨rfl, rfl⟩ := zsm hf
        exact g_aret X hr (Or.inl ⟨_, rfl⟩) dX4_swapsJudged_101
      · have hf := zneg hq hf
        refine g_aload_n X 0 dX4_swapsJudged_83 rfl ?_
        refine g_aload_n X 1 dX4_swapsJudged_84 rfl ?_
        refine g_iconst X (v := 1) dX4_swapsJudged_85 (by decide) ?_
        obtain ⟨v29, h28, hch28, hf⟩ := zc2_e hf
        refine g_callV X 2 (sX4_noSwap hch28) zf4 hk3 ydX4_noSwap w_ml_RX4_165 w_instanceMethod_X4_noSwap w_sel_X4_noSwap w_ini_RX4 w_code_X4_noSwap (by decide) rfl (st := [.ref (base + r1)]) rfl rfl (Nat.le_of_ble_eq_true rfl) dX4_swapsJudged_86 ?_
        refine g_if_eq X 96 dX4_swapsJudged_89 (by decide) (fun hq => ?_) (fun hq => ?_)
        · have hf := zpos hq hf
          refine g_iconst X (v := 0) dX4_swapsJudged_96 (by decide) ?_
          refine g_putZ X zf2 hk1 (Or.inl rfl) 9 (by decide) w_f_RX4_172 rfl rfl rfl dX4_swapsJudged_97 ?_
          refine g_hp (fun h30 eh30 => ?_)
          have hf := zlet_n eh30 hf
          refine g_aload_n X 1 dX4_swapsJudged_100 rfl ?_
          obtain ⟨rfl, rfl⟩ := zsm hf
          exact g_aret X hr (Or.inl ⟨_, rfl⟩) dX4_swapsJudged_101
        · have hf := zneg hq hf
          refine g_iconst X (v := 1) dX4_swapsJudged_92 (by decide) ?_
          refine g_goto X 97 dX4_swapsJudged_93 (by decide) ?_
          refine g_putZ X zf2 hk1 (Or.inr rfl) 9 (by decide) w_f_RX4_172 rfl rfl rfl dX4_swapsJudged_97 ?_
          refine g_hp (fun h31 eh31 => ?_)
          have hf := zlet_n eh31 hf
          refine g_aload_n X 1 dX4_swapsJudged_100 rfl ?_
          obtain ⟨rfl, rfl⟩ := zsm hf
          exact g_aret X hr (Or.inl ⟨_, rfl⟩) dX4_swapsJudged_101

set_option maxHeartbeats 4000000 in
set_option maxRecDepth 100000 in
theorem sX4_tryWords {l : Launch} {D : va_G} {cA : Nat → ClassId} {base : Nat} {sA : Nat → Nat} {r0 : Nat} {x1 : Int32} {h hE : Zh} {rE : Int32} (hf : fX4_tryWords r0 x1 h = some (rE, hE)) : zC l yX4_tryWords cX4_tryWords 3 (some .boolean) 4 108 D cA base sA [.ref (base + r0), .int x1] h (some (.int rE)) hE := by
  refine g_entry RX4 (by decide) rfl (Nat.le_of_ble_eq_true rfl) ?_
  intro p e s m args below meth c X hr
  unfold fX4_tryWords at hf
  have hf := zlet_n (x := h) rfl hf
  show zG p l e { frames := 4, cells := 0, slots := 0, locals := 108 } s m args below meth c (MQ below (zQ D cA base h hE (some (.int rE))) args s 0 0 (zA base)) 3 D cA base h 0 [(0, .ref (base + r0)), (1, .int x1)] [] h
  refine g_aload_n X 0 dX4_tryWords_0 rfl ?_
  obtain ⟨hk1, hf⟩ := zite hf
  obtain ⟨r_2, hr_2, hf⟩ := zbd hf
  refine g_get X zf4 hk1 4 (by decide) w_f_RX4_39 rfl (zfv_r hr_2 rfl) dX4_tryWords_1 ?_
  obtain ⟨hk3, hf⟩ := zite hf
  obtain ⟨h4, hch4, hf⟩ := zbd hf
  refine g_callV X 0 (sX8_clear hch4) zf8 hk3 ydX8_clear w_ml_RX4_114 w_instanceMethod_X8_clear w_sel_X8_clear w_ini_RX8 w_code_X8_clear (by decide) rfl (st := []) rfl rfl (Nat.le_of_ble_eq_true rfl) dX4_tryWords_4 ?_
  refine g_iconst X (v := 0) dX4_tryWords_7 (by decide) ?_
  refine g_istore_n X [(2, .int ((0 : Int32))), (0, .ref (base + r0)), (1, .int x1)] dX4_tryWords_8 (by decide) rfl ?_
  refine g_sub [1, 2, 0] rfl ?_
  obtain ⟨qq, hlp, hf⟩ := zbd hf
  refine lp_snd (body := (fun q : Int32 × Zh => bX4_tryWords_9 h r0 x1 q.1 q.2)) (P := (fun q : Int32 × Zh => zG p l e { frames := 4, cells := 0, slots := 0, locals := 108 } s m args below meth c (MQ below (zQ D cA base h hE (some (.int rE))) args s 0 0 (zA base)) 3 D cA base h 9 [(0, .ref (base + r0)), (1, .int x1), (2, .int q.1)] [] q.2)) (E := (fun (en : Nat) (q : Int32 × Zh) => if en = 1 then zG p l e { frames := 4, cells := 0, slots := 0, locals := 108 } s m args below meth c (MQ below (zQ D cA base h hE (some (.int rE))) args s 0 0 (zA base)) 3 D cA base h 55 [] [] q.2 else zG p l e { frames := 4, cells := 0, slots := 0, locals := 108 } s m args below meth c (MQ below (zQ D cA base h hE (some (.int rE))) args s 0 0 (zA base)) 3 D cA base h 63 [] [] q.2)) ?_ zB ((0 : Int32), h4) qq.1 qq.2 hlp ?_
  · intro q e_9 q_9 hf hc0 hc1
    obtain ⟨x2_9, h_9⟩ := q
    have hf : bX4_tryWords_9 h r0 x1 x2_9 h_9 = some (e_9, q_9) := hf
    unfold bX4_tryWords_9 at hf
    show zG p l e { frames := 4, cells := 0, slots := 0, locals := 108 } s m args below meth c (MQ below (zQ D cA base h hE (some (.int rE))) args s 0 0 (zA base)) 3 D cA base h 9 [(0, .ref (base + r0)), (1, .int x1), (2, .int x2_9)] [] h_9
    refine g_iload_n X 2 dX4_tryWords_9 rfl ?_
    refine g_aload_n X 0 dX4_tryWords_10 rfl ?_
    obtain ⟨r_5, hr_5, hf⟩ := zbd hf
    refine g_get X zf4 hk1 1 (by decide) w_f_RX4_18 rfl (zfv_r hr_5 rfl) dX4_tryWords_11 ?_
    obtain ⟨hk6, hf⟩ := zite hf
    obtain ⟨r_7, hr_7, hf⟩ := zbd hf
    refine g_get X zf9 hk6 1 (by decide) w_f_RX4_68 rfl (zfv_r hr_7 rfl) dX4_tryWords_14 ?_
    obtain ⟨hk8, hf⟩ := zite hf
    refine g_get X zf0 hk8 9 (by decide) w_f_RX4_115 rfl rfl dX4_tryWords_17 ?_
    refine g_icmp_ge X 63 dX4_tryWords_20 (by decide) (fun hq => ?_) (fun hq => ?_)
    · have hf := zpos hq hf
      cases hf
      have hc1 := hc1 (by decide)
      exact g_sub [] rfl (zun_n (by decide) hc1)
    · have hf := zneg hq hf
      refine g_aload_n X 0 dX4_tryWords_23 rfl ?_
      obtain ⟨r_9, hr_9, hf⟩ := zbd hf
      refine g_get X zf4 hk1 4 (by decide) w_f_RX4_39 rfl (zfv_r hr_9 rfl) dX4_tryWords_24 ?_
      refine g_aload_n X 0 dX4_tryWords_27 rfl ?_
      obtain ⟨r_10, hr_10, hf⟩ := zbd hf
      refine g_get X zf4 hk1 3 (by decide) w_f_RX4_32 rfl (zfv_r hr_10 rfl) dX4_tryWords_28 ?_
      refine g_aload_n X 0 dX4_tryWords_31 rfl ?_
      obtain ⟨r_11, hr_11, hf⟩ := zbd hf
      refine g_get X zf4 hk1 1 (by decide) w_f_RX4_18 rfl (zfv_r hr_11 rfl) dX4_tryWords_32 ?_
      obtain ⟨hk12, hf⟩ := zite hf
      obtain ⟨r_13, hr_13, hf⟩ := zbd hf
      refine g_get X zf9 hk12 1 (by decide) w_f_RX4_68 rfl (zfv_r hr_13 rfl) dX4_tryWords_35 ?_
      refine g_aload_n X 0 dX4_tryWords_38 rfl ?_
      obtain ⟨r_14, hr_14, hf⟩ := zbd hf
      refine g_get X zf4 hk1 0 (by decide) w_f_RX4_9 rfl (zfv_r hr_14 rfl) dX4_tryWords_39 ?_
      refine g_iload_n X 2 dX4_tryWords_42 rfl ?_
      obtain ⟨hk15, hf⟩ := zite hf
      obtain ⟨hi16, hf⟩ := zite hf
      refine g_iald X hk15 hi16 dX4_tryWords_43 ?_
      refine g_iload_n X 1 dX4_tryWords_44 rfl ?_
      obtain ⟨hk17, hf⟩ := zite hf
      obtain ⟨v19, h18, hch18, hf⟩ := zc2_e hf
      refine g_callV X 3 (sX3_byWords hch18) zf3 hk17 ydX3_byWords w_ml_RX4_134 w_instanceMethod_X3_byWords w_sel_X3_byWords w_ini_RX3 w_code_X3_byWords (by decide) rfl (st := [.ref (base + r_9)]) rfl rfl (Nat.le_of_ble_eq_true rfl) dX4_tryWords_45 ?_
      refine g_iload_n X 2 dX4_tryWords_48 rfl ?_
      obtain ⟨hk20, hf⟩ := zite hf
      obtain ⟨v22, h21, hch21, hf⟩ := zc2_e hf
      refine g_callV X 2 (sX8_put hch21) zf8 hk20 ydX8_put w_ml_RX4_144 w_instanceMethod_X8_put w_sel_X8_put w_ini_RX8 w_code_X8_put (by decide) rfl (st := []) rfl rfl (Nat.le_of_ble_eq_true rfl) dX4_tryWords_49 ?_
      refine g_if_lt X 57 dX4_tryWords_52 (by decide) (fun hq => ?_) (fun hq => ?_)
      · have hf := zpos hq hf
        obtain ⟨y23, ey23⟩ : ∃ y : Int32, y = x2_9 + (1 : Int32) := ⟨_, rfl⟩
        have hf := zlet_n ey23 hf
        refine g_iinc X (j := 2) [(2, .int y23), (0, .ref (base + r0)), (1, .int x1)] dX4_tryWords_57 rfl (by rw [ey23]; rfl) (by decide) rfl ?_
        refine g_goto X 9 dX4_tryWords_60 (by decide) ?_
        cases hf
        exact g_sub [1, 2, 0] rfl (hc0 rfl)
      · have hf := zneg hq hf
        cases hf
        have hc1 := hc1 (by decide)
        exact g_sub [] rfl (zun_p rfl hc1)
  · obtain ⟨ee, x2_k9, h_k9⟩ := qq
    have hf : kX4_tryWords_9 h ee x2_k9 h_k9 = some (rE, hE) := hf
    unfold kX4_tryWords_9 at hf
    by_cases hee0 : ee = 1
    · have hf := zpos hee0 hf
      refine zifp hee0 ?_
      show zG p l e { frames := 4, cells := 0, slots := 0, locals := 108 } s m args below meth c (MQ below (zQ D cA base h hE (some (.int rE))) args s 0 0 (zA base)) 3 D cA base h 55 [] [] h_k9
      refine g_iconst X (v := 0) dX4_tryWords_55 (by decide) ?_
      obtain ⟨rfl, rfl⟩ := zsm hf
      exact g_zret X (Or.inl rfl) hr dX4_tryWords_56
    have hf := zneg hee0 hf
    refine zifn hee0 ?_
    show zG p l e { frames := 4, cells := 0, slots := 0, locals := 108 } s m args below meth c (MQ below (zQ D cA base h hE (some (.int rE))) args s 0 0 (zA base)) 3 D cA base h 63 [] [] h_k9
    refine g_iconst X (v := 1) dX4_tryWords_63 (by decide) ?_
    obtain ⟨rfl, rfl⟩ := zsm hf
    exact g_zret X (Or.inr rfl) hr dX4_tryWords_64

set_option maxHeartbeats 4000000 in
set_option maxRecDepth 100000 in
theorem sX4_doWordsWork {l : Launch} {D : va_G} {cA : Nat → ClassId} {base : Nat} {sA : Nat → Nat} {r0 : Nat} {x1 : Int32} {h hE : Zh} {rE : Int32} (hf : fX4_doWordsWork r0 x1 h = some (rE, hE)) : zC l yX4_doWordsWork cX4_doWordsWork 2 (some .boolean) 5 130 D cA base sA [.ref (base + r0), .int x1] h (some (.int rE)) hE := by
  refine g_entry RX4 (by decide) rfl (Nat.le_of_ble_eq_true rfl) ?_
  intro p e s m args below meth c X hr
  unfold fX4_doWordsWork at hf
  have hf := zlet_n (x := h) rfl hf
  show zG p l e { frames := 5, cells := 0, slots := 0, locals := 130 } s m args below meth c (MQ below (zQ D cA base h hE (some (.int rE))) args s 0 0 (zA base)) 2 D cA base h 0 [(0, .ref (base + r0)), (1, .int x1)] [] h
  refine g_aload_n X 0 dX4_doWordsWork_0 rfl ?_
  obtain ⟨hk1, hf⟩ := zite hf
  obtain ⟨r_2, hr_2, hf⟩ := zbd hf
  refine g_get X zf4 hk1 8 (by decide) w_f_RX4_62 rfl (zfv_r hr_2 rfl) dX4_doWordsWork_1 ?_
  refine g_iload_n X 1 dX4_doWordsWork_4 rfl ?_
  obtain ⟨hk3, hf⟩ := zite hf
  obtain ⟨hi4, hf⟩ := zite hf
  refine g_iald X hk3 hi4 dX4_doWordsWork_5 ?_
  refine g_bipush X (v := -3) dX4_doWordsWork_6 (by decide) ?_
  have hJ30 : ∀  (h_30 : Zh), jX4_doWordsWork_30 h r0 x1 h_30 = some (rE, hE) → zG p l e { frames := 5, cells := 0, slots := 0, locals := 130 } s m args below meth c (MQ below (zQ D cA base h hE (some (.int rE))) args s 0 0 (zA base)) 2 D cA base h 30 [(0, .ref (base + r0)), (1, .int x1)] [] h_30 := by
    intro  h_30 hf
    unfold jX4_doWordsWork_30 at hf
    refine g_aload_n X 0 dX4_doWordsWork_30 rfl ?_
    obtain ⟨r_5, hr_5, hf⟩ := zbd hf
    refine g_get X zf4 hk1 8 (by decide) w_f_RX4_62 rfl (zfv_r hr_5 rfl) dX4_doWordsWork_31 ?_
    refine g_iload_n X 1 dX4_doWordsWork_34 rfl ?_
    obtain ⟨hk6, hf⟩ := zite hf
    obtain ⟨hi7, hf⟩ := zite hf
    refine g_iald X hk6 hi7 dX4_doWordsWork_35 ?_
    refine g_iconst X (v := 1) dX4_doWordsWork_36 (by decide) ?_
    refine g_icmp_ne X 44 dX4_doWordsWork_37 (by decide) (fun hq => ?_) (fun hq => ?_)
    · have hf := zneg hq hf
      refine g_iconst X (v := 0) dX4_doWordsWork_44 (by decide) ?_
      obtain ⟨rfl, rfl⟩ := zsm hf
      exact g_zret X (Or.inl rfl) hr dX4_doWordsWork_45
    · have hf := zpos hq hf
      refine g_iconst X (v := 1) dX4_doWordsWork_40 (by decide) ?_
      refine g_goto X 45 dX4_doWordsWork_41 (by decide) ?_
      obtain ⟨rfl, rfl⟩ := zsm hf
      exact g_zret X (Or.inr rfl) hr dX4_doWordsWork_45
  refine g_icmp_ne X 30 dX4_doWordsWork_8 (by decide) (fun hq => ?_) (fun hq => ?_)
  · have hf := zneg hq hf
    refine g_sub [0, 1] rfl ?_
    exact hJ30 _ hf
  · have hf := zpos hq hf
    refine g_aload_n X 0 dX4_doWordsWork_11 rfl ?_
    obtain ⟨r_8, hr_8, hf⟩ := zbd hf
    refine g_get X zf4 hk1 8 (by decide) w_f_RX4_62 rfl (zfv_r hr_8 rfl) dX4_doWordsWork_12 ?_
    refine g_iload_n X 1 dX4_doWordsWork_15 rfl ?_
    refine g_aload_n X 0 dX4_doWordsWork_16 rfl ?_
    refine g_iload_n X 1 dX4_doWordsWork_17 rfl ?_
    obtain ⟨v10, h9, hch9, hf⟩ := zc2_e hf
    refine g_callV X 1 (sX4_tryWords hch9) zf4 hk1 ydX4_tryWords w_ml_RX4_198 w_instanceMethod_X4_tryWords w_sel_X4_tryWords w_ini_RX4 w_code_X4_tryWords (by decide) rfl (st := [.int x1, .ref (base + r_8)]) rfl rfl (Nat.le_of_ble_eq_true rfl) dX4_doWordsWork_18 ?_
    have hJ29 : ∀ (t0_29 : Int32) (t1_29 : Int32) (t2_29 : Nat) (h_29 : Zh), jX4_doWordsWork_29 h r0 x1 t0_29 t1_29 t2_29 h_29 = some (rE, hE) → zG p l e { frames := 5, cells := 0, slots := 0, locals := 130 } s m args below meth c (MQ below (zQ D cA base h hE (some (.int rE))) args s 0 0 (zA base)) 2 D cA base h 29 [(0, .ref (base + r0)), (1, .int x1)] [.int t0_29, .int t1_29, .ref (base + t2_29)] h_29 := by
      intro t0_29 t1_29 t2_29 h_29 hf
      unfold jX4_doWordsWork_29 at hf
      obtain ⟨hk11, hf⟩ := zite hf
      obtain ⟨hi12, hf⟩ := zite hf
      refine g_iast X hk11 hi12 dX4_doWordsWork_29 ?_
      refine g_hp (fun h13 eh13 => ?_)
      have hf := zlet_n eh13 hf
      refine g_sub [0, 1] rfl ?_
      exact hJ30 _ hf
    refine g_if_eq X 28 dX4_doWordsWork_21 (by decide) (fun hq => ?_) (fun hq => ?_)
    · have hf := zpos hq hf
      refine g_iconst X (v := 0) dX4_doWordsWork_28 (by decide) ?_
      refine g_sub [0, 1] rfl ?_
      exact hJ29 _ _ _ _ hf
    · have hf := zneg hq hf
      refine g_iconst X (v := 1) dX4_doWordsWork_24 (by decide) ?_
      refine g_goto X 29 dX4_doWordsWork_25 (by decide) ?_
      refine g_sub [0, 1] rfl ?_
      exact hJ29 _ _ _ _ hf

set_option maxHeartbeats 4000000 in
set_option maxRecDepth 100000 in
theorem sX4_handsApart {l : Launch} {D : va_G} {cA : Nat → ClassId} {base : Nat} {sA : Nat → Nat} {r0 : Nat} {r1 : Nat} {r2 : Nat} {h hE : Zh} {rE : Int32} (hf : fX4_handsApart r0 r1 r2 h = some (rE, hE)) : zC l yX4_handsApart cX4_handsApart 6 (some .int) 0 0 D cA base sA [.ref (base + r0), .ref (base + r1), .ref (base + r2)] h (some (.int rE)) hE := by
  refine g_entry RX4 (by decide) rfl (Nat.le_of_ble_eq_true rfl) ?_
  intro p e s m args below meth c X hr
  unfold fX4_handsApart at hf
  have hf := zlet_n (x := h) rfl hf
  show zG p l e { frames := 0, cells := 0, slots := 0, locals := 0 } s m args below meth c (MQ below (zQ D cA base h hE (some (.int rE))) args s 0 0 (zA base)) 6 D cA base h 0 [(0, .ref (base + r0)), (1, .ref (base + r1)), (2, .ref (base + r2))] [] h
  refine g_aload_n X 1 dX4_handsApart_0 rfl ?_
  obtain ⟨hk1, hf⟩ := zite hf
  refine g_get X zf2 hk1 0 (by decide) w_f_RX4_202 rfl rfl dX4_handsApart_1 ?_
  refine g_iconst X (v := 4) dX4_handsApart_4 (by decide) ?_
  refine g_imul X dX4_handsApart_5 ?_
  refine g_aload_n X 2 dX4_handsApart_6 rfl ?_
  obtain ⟨hk2, hf⟩ := zite hf
  refine g_get X zf2 hk2 0 (by decide) w_f_RX4_202 rfl rfl dX4_handsApart_7 ?_
  refine g_iadd X dX4_handsApart_10 ?_
  refine g_topi (fun y3 ey3 => ?_)
  have hf := zlet_n ey3 hf
  refine g_istore_n X [(3, .int y3), (0, .ref (base + r0)), (1, .ref (base + r1)), (2, .ref (base + r2))] dX4_handsApart_11 (by decide) rfl ?_
  refine g_aload_n X 1 dX4_handsApart_12 rfl ?_
  obtain ⟨hk4, hf⟩ := zite hf
  obtain ⟨r_5, hr_5, hf⟩ := zbd hf
  refine g_get X zf4 hk4 7 (by decide) w_f_RX4_59 rfl (zfv_r hr_5 rfl) dX4_handsApart_13 ?_
  refine g_iload_n X 0 dX4_handsApart_16 rfl ?_
  obtain ⟨hk6, hf⟩ := zite hf
  obtain ⟨hi7, hf⟩ := zite hf
  refine g_iald X hk6 hi7 dX4_handsApart_17 ?_
  refine g_bipush X (v := -3) dX4_handsApart_18 (by decide) ?_
  refine g_icmp_ne X 96 dX4_handsApart_20 (by decide) (fun hq => ?_) (fun hq => ?_)
  · have hf := zneg hq hf
    refine g_aload_n X 1 dX4_handsApart_96 rfl ?_
    obtain ⟨r_8, hr_8, hf⟩ := zbd hf
    refine g_get X zf4 hk4 7 (by decide) w_f_RX4_59 rfl (zfv_r hr_8 rfl) dX4_handsApart_97 ?_
    refine g_iload_n X 0 dX4_handsApart_100 rfl ?_
    obtain ⟨hk9, hf⟩ := zite hf
    obtain ⟨hi10, hf⟩ := zite hf
    refine g_iald X hk9 hi10 dX4_handsApart_101 ?_
    obtain ⟨rfl, rfl⟩ := zsm hf
    exact g_iret X hr dX4_handsApart_102
  · have hf := zpos hq hf
    refine g_iconst X (v := 0) dX4_handsApart_23 (by decide) ?_
    refine g_istore X [(4, .int ((0 : Int32))), (3, .int y3), (0, .ref (base + r0)), (1, .ref (base + r1)), (2, .ref (base + r2))] dX4_handsApart_24 (by decide) rfl ?_
    refine g_iconst X (v := 0) dX4_handsApart_26 (by decide) ?_
    refine g_istore X [(5, .int ((0 : Int32))), (4, .int ((0 : Int32))), (3, .int y3), (0, .ref (base + r0)), (1, .ref (base + r1)), (2, .ref (base + r2))] dX4_handsApart_27 (by decide) rfl ?_
    refine g_sub [3, 4, 5, 2, 1, 0] rfl ?_
    obtain ⟨qq, hlp, hf⟩ := zbd hf
    refine lp_snd (body := (fun q : Int32 × Int32 × Zh => bX4_handsApart_29 h r0 r1 r2 q.1 q.2.1 q.2.2)) (P := (fun q : Int32 × Int32 × Zh => zG p l e { frames := 0, cells := 0, slots := 0, locals := 0 } s m args below meth c (MQ below (zQ D cA base h hE (some (.int rE))) args s 0 0 (zA base)) 6 D cA base h 29 [(0, .ref (base + r0)), (1, .ref (base + r1)), (2, .ref (base + r2)), (3, .int y3), (4, .int q.1), (5, .int q.2.1)] [] q.2.2)) (E := (fun (en : Nat) (q : Int32 × Int32 × Zh) => zG p l e { frames := 0, cells := 0, slots := 0, locals := 0 } s m args below meth c (MQ below (zQ D cA base h hE (some (.int rE))) args s 0 0 (zA base)) 6 D cA base h 70 [(0, .ref (base + r0)), (1, .ref (base + r1)), (2, .ref (base + r2)), (3, .int y3), (4, .int q.1)] [] q.2.2)) ?_ zB ((0 : Int32), ((0 : Int32), h)) qq.1 qq.2 hlp ?_
    · intro q e_29 q_29 hf hc0 hc1
      obtain ⟨x4_29, x5_29, h_29⟩ := q
      have hf : bX4_handsApart_29 h r0 r1 r2 x4_29 x5_29 h_29 = some (e_29, q_29) := hf
      unfold bX4_handsApart_29 at hf
      show zG p l e { frames := 0, cells := 0, slots := 0, locals := 0 } s m args below meth c (MQ below (zQ D cA base h hE (some (.int rE))) args s 0 0 (zA base)) 6 D cA base h 29 [(0, .ref (base + r0)), (1, .ref (base + r1)), (2, .ref (base + r2)), (3, .int y3), (4, .int x4_29), (5, .int x5_29)] [] h_29
      refine g_iload X 5 dX4_handsApart_29 rfl ?_
      refine g_aload_n X 0 dX4_handsApart_31 rfl ?_
      obtain ⟨r_11, hr_11, hf⟩ := zbd hf
      refine g_get X zf4 hk4 1 (by decide) w_f_RX4_18 rfl (zfv_r hr_11 rfl) dX4_handsApart_32 ?_
      obtain ⟨hk12, hf⟩ := zite hf
      obtain ⟨r_13, hr_13, hf⟩ := zbd hf
      refine g_get X zf9 hk12 1 (by decide) w_f_RX4_68 rfl (zfv_r hr_13 rfl) dX4_handsApart_35 ?_
      obtain ⟨hk14, hf⟩ := zite hf
      refine g_get X zf0 hk14 9 (by decide) w_f_RX4_115 rfl rfl dX4_handsApart_38 ?_
      refine g_icmp_ge X 70 dX4_handsApart_41 (by decide) (fun hq => ?_) (fun hq => ?_)
      · have hf := zpos hq hf
        cases hf
        have hc1 := hc1 (by decide)
        exact g_sub [0, 1, 2, 3, 4] rfl hc1
      · have hf := zneg hq hf
        refine g_aload_n X 1 dX4_handsApart_44 rfl ?_
        obtain ⟨r_15, hr_15, hf⟩ := zbd hf
        refine g_get X zf2 hk1 1 (by decide) w_f_RX4_138 rfl (zfv_r hr_15 rfl) dX4_handsApart_45 ?_
        refine g_iload X 5 dX4_handsApart_48 rfl ?_
        obtain ⟨hk16, hf⟩ := zite hf
        obtain ⟨hi17, hf⟩ := zite hf
        refine g_iald X hk16 hi17 dX4_handsApart_50 ?_
        refine g_aload_n X 2 dX4_handsApart_51 rfl ?_
        obtain ⟨r_18, hr_18, hf⟩ := zbd hf
        refine g_get X zf2 hk2 1 (by decide) w_f_RX4_138 rfl (zfv_r hr_18 rfl) dX4_handsApart_52 ?_
        refine g_iload X 5 dX4_handsApart_55 rfl ?_
        obtain ⟨hk19, hf⟩ := zite hf
        obtain ⟨hi20, hf⟩ := zite hf
        refine g_iald X hk19 hi20 dX4_handsApart_57 ?_
        refine g_icmp_eq X 64 dX4_handsApart_58 (by decide) (fun hq => ?_) (fun hq => ?_)
        · have hf := zpos hq hf
          obtain ⟨y21, ey21⟩ : ∃ y : Int32, y = x5_29 + (1 : Int32) := ⟨_, rfl⟩
          have hf := zlet_n ey21 hf
          refine g_iinc X (j := 5) [(5, .int y21), (0, .ref (base + r0)), (1, .ref (base + r1)), (2, .ref (base + r2)), (3, .int y3), (4, .int x4_29)] dX4_handsApart_64 rfl (by rw [ey21]; rfl) (by decide) rfl ?_
          refine g_goto X 29 dX4_handsApart_67 (by decide) ?_
          cases hf
          exact g_sub [1, 2, 3, 4, 5, 0] rfl (hc0 rfl)
        · have hf := zneg hq hf
          obtain ⟨y22, ey22⟩ : ∃ y : Int32, y = x4_29 + (1 : Int32) := ⟨_, rfl⟩
          have hf := zlet_n ey22 hf
          refine g_iinc X (j := 4) [(4, .int y22), (0, .ref (base + r0)), (1, .ref (base + r1)), (2, .ref (base + r2)), (3, .int y3), (5, .int x5_29)] dX4_handsApart_61 rfl (by rw [ey22]; rfl) (by decide) rfl ?_
          obtain ⟨y23, ey23⟩ : ∃ y : Int32, y = x5_29 + (1 : Int32) := ⟨_, rfl⟩
          have hf := zlet_n ey23 hf
          refine g_iinc X (j := 5) [(5, .int y23), (4, .int y22), (0, .ref (base + r0)), (1, .ref (base + r1)), (2, .ref (base + r2)), (3, .int y3)] dX4_handsApart_64 rfl (by rw [ey23]; rfl) (by decide) rfl ?_
          refine g_goto X 29 dX4_handsApart_67 (by decide) ?_
          cases hf
          exact g_sub [2, 3, 4, 5, 1, 0] rfl (hc0 rfl)
    · obtain ⟨ee, x4_k29, x5_k29, h_k29⟩ := qq
      have hf : kX4_handsApart_29 h r0 r1 r2 y3 ee x4_k29 x5_k29 h_k29 = some (rE, hE) := hf
      unfold kX4_handsApart_29 at hf
      show zG p l e { frames := 0, cells := 0, slots := 0, locals := 0 } s m args below meth c (MQ below (zQ D cA base h hE (some (.int rE))) args s 0 0 (zA base)) 6 D cA base h 70 [(0, .ref (base + r0)), (1, .ref (base + r1)), (2, .ref (base + r2)), (3, .int y3), (4, .int x4_k29)] [] h_k29
      refine g_aload_n X 0 dX4_handsApart_70 rfl ?_
      obtain ⟨r_24, hr_24, hf⟩ := zbd hf
      refine g_get X zf4 hk4 7 (by decide) w_f_RX4_59 rfl (zfv_r hr_24 rfl) dX4_handsApart_71 ?_
      refine g_iload_n X 3 dX4_handsApart_74 rfl ?_
      refine g_iload X 4 dX4_handsApart_75 rfl ?_
      obtain ⟨hk25, hf⟩ := zite hf
      obtain ⟨hi26, hf⟩ := zite hf
      refine g_iast X hk25 hi26 dX4_handsApart_77 ?_
      refine g_hp (fun h27 eh27 => ?_)
      have hf := zlet_n eh27 hf
      refine g_aload_n X 0 dX4_handsApart_78 rfl ?_
      obtain ⟨r_28, hr_28, hf⟩ := zbd hf
      refine g_get X zf4 hk4 7 (by decide) w_f_RX4_59 rfl (zfv_r hr_28 rfl) dX4_handsApart_79 ?_
      refine g_aload_n X 2 dX4_handsApart_82 rfl ?_
      refine g_get X zf2 hk2 0 (by decide) w_f_RX4_202 rfl rfl dX4_handsApart_83 ?_
      refine g_iconst X (v := 4) dX4_handsApart_86 (by decide) ?_
      refine g_imul X dX4_handsApart_87 ?_
      refine g_aload_n X 1 dX4_handsApart_88 rfl ?_
      refine g_get X zf2 hk1 0 (by decide) w_f_RX4_202 rfl rfl dX4_handsApart_89 ?_
      refine g_iadd X dX4_handsApart_92 ?_
      refine g_iload X 4 dX4_handsApart_93 rfl ?_
      obtain ⟨hk29, hf⟩ := zite hf
      obtain ⟨hi30, hf⟩ := zite hf
      refine g_iast X hk29 hi30 dX4_handsApart_95 ?_
      refine g_hp (fun h31 eh31 => ?_)
      have hf := zlet_n eh31 hf
      refine g_aload_n X 0 dX4_handsApart_96 rfl ?_
      obtain ⟨r_32, hr_32, hf⟩ := zbd hf
      refine g_get X zf4 hk4 7 (by decide) w_f_RX4_59 rfl (zfv_r hr_32 rfl) dX4_handsApart_97 ?_
      refine g_iload_n X 3 dX4_handsApart_100 rfl ?_
      obtain ⟨hk33, hf⟩ := zite hf
      obtain ⟨hi34, hf⟩ := zite hf
      refine g_iald X hk33 hi34 dX4_handsApart_101 ?_
      obtain ⟨rfl, rfl⟩ := zsm hf
      exact g_iret X hr dX4_handsApart_102

set_option maxHeartbeats 4000000 in
set_option maxRecDepth 100000 in
theorem sX4_largestDeck {l : Launch} {D : va_G} {cA : Nat → ClassId} {base : Nat} {sA : Nat → Nat} {r0 : Nat} {h hE : Zh} {rE : Int32} (hf : fX4_largestDeck r0 h = some (rE, hE)) : zC l yX4_largestDeck cX4_largestDeck 2 (some .int) 2 45 D cA base sA [.ref (base + r0)] h (some (.int rE)) hE := by
  refine g_entry RX4 (by decide) rfl (Nat.le_of_ble_eq_true rfl) ?_
  intro p e s m args below meth c X hr
  unfold fX4_largestDeck at hf
  have hf := zlet_n (x := h) rfl hf
  show zG p l e { frames := 2, cells := 0, slots := 0, locals := 45 } s m args below meth c (MQ below (zQ D cA base h hE (some (.int rE))) args s 0 0 (zA base)) 2 D cA base h 0 [(0, .ref (base + r0))] [] h
  refine g_aload_n X 0 dX4_largestDeck_0 rfl ?_
  obtain ⟨hk1, hf⟩ := zite hf
  refine g_get X zf4 hk1 9 (by decide) w_f_RX4_101 rfl rfl dX4_largestDeck_1 ?_
  refine g_bipush X (v := -3) dX4_largestDeck_4 (by decide) ?_
  refine g_icmp_ne X 70 dX4_largestDeck_6 (by decide) (fun hq => ?_) (fun hq => ?_)
  · have hf := zneg hq hf
    refine g_aload_n X 0 dX4_largestDeck_70 rfl ?_
    refine g_get X zf4 hk1 9 (by decide) w_f_RX4_101 rfl rfl dX4_largestDeck_71 ?_
    obtain ⟨rfl, rfl⟩ := zsm hf
    exact g_iret X hr dX4_largestDeck_74
  · have hf := zpos hq hf
    refine g_aload_n X 0 dX4_largestDeck_9 rfl ?_
    refine g_bipush X (v := -2) dX4_largestDeck_10 (by decide) ?_
    refine g_putI X zf4 hk1 9 (by decide) w_f_RX4_101 rfl rfl rfl dX4_largestDeck_12 ?_
    refine g_hp (fun h2 eh2 => ?_)
    have hf := zlet_n eh2 hf
    refine g_aload_n X 0 dX4_largestDeck_15 rfl ?_
    obtain ⟨r_3, hr_3, hf⟩ := zbd hf
    refine g_get X zf4 hk1 1 (by decide) w_f_RX4_18 rfl (zfv_r hr_3 rfl) dX4_largestDeck_16 ?_
    obtain ⟨hk4, hf⟩ := zite hf
    obtain ⟨r_5, hr_5, hf⟩ := zbd hf
    refine g_get X zf9 hk4 1 (by decide) w_f_RX4_68 rfl (zfv_r hr_5 rfl) dX4_largestDeck_19 ?_
    obtain ⟨hk6, hf⟩ := zite hf
    refine g_get X zf0 hk6 3 (by decide) w_f_RX4_78 rfl rfl dX4_largestDeck_22 ?_
    refine g_topi (fun y7 ey7 => ?_)
    have hf := zlet_n ey7 hf
    refine g_istore_n X [(1, .int y7), (0, .ref (base + r0))] dX4_largestDeck_25 (by decide) rfl ?_
    refine g_sub [1, 0] rfl ?_
    obtain ⟨qq, hlp, hf⟩ := zbd hf
    refine lp_snd (body := (fun q : Int32 × Zh => bX4_largestDeck_26 h r0 q.1 q.2)) (P := (fun q : Int32 × Zh => zG p l e { frames := 2, cells := 0, slots := 0, locals := 45 } s m args below meth c (MQ below (zQ D cA base h hE (some (.int rE))) args s 0 0 (zA base)) 2 D cA base h 26 [(0, .ref (base + r0)), (1, .int q.1)] [] q.2)) (E := (fun (en : Nat) (q : Int32 × Zh) => zG p l e { frames := 2, cells := 0, slots := 0, locals := 45 } s m args below meth c (MQ below (zQ D cA base h hE (some (.int rE))) args s 0 0 (zA base)) 2 D cA base h 70 [(0, .ref (base + r0))] [] q.2)) ?_ zB (y7, h2) qq.1 qq.2 hlp ?_
    · intro q e_26 q_26 hf hc0 hc1
      obtain ⟨x1_26, h_26⟩ := q
      have hf : bX4_largestDeck_26 h r0 x1_26 h_26 = some (e_26, q_26) := hf
      unfold bX4_largestDeck_26 at hf
      show zG p l e { frames := 2, cells := 0, slots := 0, locals := 45 } s m args below meth c (MQ below (zQ D cA base h hE (some (.int rE))) args s 0 0 (zA base)) 2 D cA base h 26 [(0, .ref (base + r0)), (1, .int x1_26)] [] h_26
      refine g_iload_n X 1 dX4_largestDeck_26 rfl ?_
      refine g_sipush X (v := 200) dX4_largestDeck_27 (by decide) ?_
      refine g_icmp_gt X 70 dX4_largestDeck_30 (by decide) (fun hq => ?_) (fun hq => ?_)
      · have hf := zpos hq hf
        cases hf
        have hc1 := hc1 (by decide)
        exact g_sub [0] rfl hc1
      · have hf := zneg hq hf
        refine g_aload_n X 0 dX4_largestDeck_33 rfl ?_
        obtain ⟨r_8, hr_8, hf⟩ := zbd hf
        refine g_get X zf4 hk1 1 (by decide) w_f_RX4_18 rfl (zfv_r hr_8 rfl) dX4_largestDeck_34 ?_
        obtain ⟨hk9, hf⟩ := zite hf
        obtain ⟨r_10, hr_10, hf⟩ := zbd hf
        refine g_get X zf9 hk9 1 (by decide) w_f_RX4_68 rfl (zfv_r hr_10 rfl) dX4_largestDeck_37 ?_
        refine g_iload_n X 1 dX4_largestDeck_40 rfl ?_
        obtain ⟨hk11, hf⟩ := zite hf
        obtain ⟨v13, h12, hch12, hf⟩ := zc2_e hf
        refine g_callV X 1 (sX0_handsOf hch12) zf0 hk11 ydX0_handsOf w_ml_RX4_205 w_instanceMethod_X0_handsOf w_sel_X0_handsOf w_ini_RX0 w_code_X0_handsOf (by decide) rfl (st := []) rfl rfl (Nat.le_of_ble_eq_true rfl) dX4_largestDeck_41 ?_
        refine g_aload_n X 0 dX4_largestDeck_44 rfl ?_
        obtain ⟨r_14, hr_14, hf⟩ := zbd hf
        refine g_get X zf4 hk1 1 (by decide) w_f_RX4_18 rfl (zfv_r hr_14 rfl) dX4_largestDeck_45 ?_
        obtain ⟨hk15, hf⟩ := zite hf
        obtain ⟨r_16, hr_16, hf⟩ := zbd hf
        refine g_get X zf9 hk15 1 (by decide) w_f_RX4_68 rfl (zfv_r hr_16 rfl) dX4_largestDeck_48 ?_
        refine g_iload_n X 1 dX4_largestDeck_51 rfl ?_
        obtain ⟨hk17, hf⟩ := zite hf
        obtain ⟨v19, h18, hch18, hf⟩ := zc2_e hf
        refine g_callV X 1 (sX0_rowsOf hch18) zf0 hk17 ydX0_rowsOf w_ml_RX4_209 w_instanceMethod_X0_rowsOf w_sel_X0_rowsOf w_ini_RX0 w_code_X0_rowsOf (by decide) rfl (st := [.long v13]) rfl rfl (Nat.le_of_ble_eq_true rfl) dX4_largestDeck_52 ?_
        refine g_lcmp X dX4_largestDeck_55 ?_
        refine g_if_gt X 64 dX4_largestDeck_56 (by decide) (fun hq => ?_) (fun hq => ?_)
        · have hf := zpos hq hf
          obtain ⟨y20, ey20⟩ : ∃ y : Int32, y = x1_26 + (1 : Int32) := ⟨_, rfl⟩
          have hf := zlet_n ey20 hf
          refine g_iinc X (j := 1) [(1, .int y20), (0, .ref (base + r0))] dX4_largestDeck_64 rfl (by rw [ey20]; rfl) (by decide) rfl ?_
          refine g_goto X 26 dX4_largestDeck_67 (by decide) ?_
          cases hf
          exact g_sub [1, 0] rfl (hc0 rfl)
        · have hf := zneg hq hf
          refine g_aload_n X 0 dX4_largestDeck_59 rfl ?_
          refine g_iload_n X 1 dX4_largestDeck_60 rfl ?_
          refine g_putI X zf4 hk1 9 (by decide) w_f_RX4_101 rfl rfl rfl dX4_largestDeck_61 ?_
          refine g_hp (fun h21 eh21 => ?_)
          have hf := zlet_n eh21 hf
          obtain ⟨y22, ey22⟩ : ∃ y : Int32, y = x1_26 + (1 : Int32) := ⟨_, rfl⟩
          have hf := zlet_n ey22 hf
          refine g_iinc X (j := 1) [(1, .int y22), (0, .ref (base + r0))] dX4_largestDeck_64 rfl (by rw [ey22]; rfl) (by decide) rfl ?_
          refine g_goto X 26 dX4_largestDeck_67 (by decide) ?_
          cases hf
          exact g_sub [1, 0] rfl (hc0 rfl)
    · obtain ⟨ee, x1_k26, h_k26⟩ := qq
      have hf : kX4_largestDeck_26 h r0 ee x1_k26 h_k26 = some (rE, hE) := hf
      unfold kX4_largestDeck_26 at hf
      show zG p l e { frames := 2, cells := 0, slots := 0, locals := 45 } s m args below meth c (MQ below (zQ D cA base h hE (some (.int rE))) args s 0 0 (zA base)) 2 D cA base h 70 [(0, .ref (base + r0))] [] h_k26
      refine g_aload_n X 0 dX4_largestDeck_70 rfl ?_
      refine g_get X zf4 hk1 9 (by decide) w_f_RX4_101 rfl rfl dX4_largestDeck_71 ?_
      obtain ⟨rfl, rfl⟩ := zsm hf
      exact g_iret X hr dX4_largestDeck_74

