/-! FifthCard Deck handNumber -/
def bX0_handNumber_30 (g : Zh) (r0 : Nat) (r1 : Nat) (j2 : Int64) (x4 : Int32) (h : Zh) : Option (Nat × Int64 × Int32 × Zh) :=
  if (zI h r0 3) ≤ x4 then some (1, (j2, (x4, h))) else if zK g r1 = 100 then if zin x4 (zL g r1) then zc2 (fX0_choose (((zI h r0 0) - ((1 : Int32))) - (zI h r1 x4.toNatClampNeg)) ((zI h r0 3) - x4) h) fun v6 h5 => zlet (j2 + v6) fun y7 => zlet (x4 + (1 : Int32)) fun y8 => some (0, (y7, (y8, h5))) else none else none
def kX0_handNumber_30 (g : Zh) (r0 : Nat) (e : Nat) (j2 : Int64) (x4 : Int32) (h : Zh) : Option (Int32 × Zh) :=
  zc2 (fX0_choose (zI h r0 0) (zI h r0 3) h) fun v10 h9 => some (((v10 - ((1 : Int64))) - j2).toInt32, h9)
def fX0_handNumber (r0 : Nat) (r1 : Nat) (h : Zh) : Option (Int32 × Zh) := zlet h fun g =>
  if zK g r0 = 0 then if (zI h r0 6) = 0 then (fX0_sort r1 (zI h r0 3) h).bind fun h2 => (lp (fun q : Int64 × Int32 × Zh => bX0_handNumber_30 g r0 r1 q.1 q.2.1 q.2.2) zB ((0 : Int64), ((0 : Int32), h2))).bind fun q => kX0_handNumber_30 g r0 q.1 q.2.1 q.2.2.1 q.2.2.2 else zc2 (fX0_rowNumber r0 r1 (zI h r0 3) h) fun v12 h11 => some (v12, h11) else none
/-! FifthCard Deck lower -/
def fX0_lower (x0 : Int32) (x1 : Int32) (h : Zh) : Option (Int32 × Zh) := zlet h fun g =>
  zc2 (fJ6_bitCount_0f7a4 (x0 &&& ((((1 : Int32)) <<< (x1 &&& 31)) - ((1 : Int32)))) h) fun v2 h1 => some (v2, h1)
/-! FifthCard Deck unusedCard -/
def bX0_unusedCard_5 (g : Zh) (r0 : Nat) (x1 : Int32) (x3 : Int32) (x4 : Int32) (h : Zh) : Option (Nat × Int32 × Int32 × Zh) :=
  if zK g r0 = 0 then if (zI h r0 0) ≤ x4 then some (2, (x3, (x4, h))) else if ((x1 >>> (x4 &&& 31)) &&& ((1 : Int32))) = 0 then if x3 = 0 then some (1, (x3, (x4, h))) else zlet (x3 + (-1 : Int32)) fun y3 => zlet (x4 + (1 : Int32)) fun y4 => some (0, (y3, (y4, h))) else zlet (x4 + (1 : Int32)) fun y2 => some (0, (x3, (y2, h))) else none
def kX0_unusedCard_5 (g : Zh)  (e : Nat) (x3 : Int32) (x4 : Int32) (h : Zh) : Option (Int32 × Zh) :=
  if e = 1 then some (x4, h) else some ((0 : Int32), h)
def fX0_unusedCard (r0 : Nat) (x1 : Int32) (x2 : Int32) (h : Zh) : Option (Int32 × Zh) := zlet h fun g =>
  (lp (fun q : Int32 × Int32 × Zh => bX0_unusedCard_5 g r0 x1 q.1 q.2.1 q.2.2) zB (x2, ((0 : Int32), h))).bind fun q => kX0_unusedCard_5 g q.1 q.2.1 q.2.2.1 q.2.2.2
/-! FifthCard Deck unpackRow -/
def bX0_unpackRow_15 (g : Zh) (r0 : Nat) (r2 : Nat) (x3 : Int32) (x4 : Int32) (h : Zh) : Option (Nat × Int32 × Int32 × Zh) :=
  if x4 < 0 then some (1, (x3, (x4, h))) else if ¬ ((zI h r0 0) - x4) = 0 then if zK g r2 = 100 then if zin x4 (zL g r2) then zlet (zsI h r2 x4.toNatClampNeg (zrem x3 ((zI h r0 0) - x4))) fun h8 => if ¬ ((zI h8 r0 0) - x4) = 0 then zlet (x3 / ((zI h8 r0 0) - x4)) fun y10 => zlet (x4 + (-1 : Int32)) fun y11 => some (0, (y10, (y11, h8))) else none else none else none else none
def bX0_unpackRow_55 (g : Zh) (r0 : Nat) (r2 : Nat) (x4 : Int32) (x5 : Int32) (h : Zh) : Option (Nat × Int32 × Int32 × Zh) :=
  if (zI h r0 5) ≤ x5 then some (1, (x4, (x5, h))) else if zK g r2 = 100 then if zin x5 (zL g r2) then zc2 (fX0_unusedCard r0 x4 (zI h r2 x5.toNatClampNeg) h) fun v15 h14 => if zin x5 (zL g r2) then zlet (zsI h14 r2 x5.toNatClampNeg v15) fun h17 => if zin x5 (zL g r2) then zlet (x4 ||| (((1 : Int32)) <<< ((zI h17 r2 x5.toNatClampNeg) &&& 31))) fun y19 => zlet (x5 + (1 : Int32)) fun y20 => some (0, (y19, (y20, h17))) else none else none else none else none
def kX0_unpackRow_55 (g : Zh)  (e : Nat) (x4 : Int32) (x5 : Int32) (h : Zh) : Option Zh :=
  some h
def kX0_unpackRow_15 (g : Zh) (r0 : Nat) (r2 : Nat) (e : Nat) (x3 : Int32) (x4 : Int32) (h : Zh) : Option Zh :=
  (lp (fun q : Int32 × Int32 × Zh => bX0_unpackRow_55 g r0 r2 q.1 q.2.1 q.2.2) zB ((0 : Int32), ((0 : Int32), h))).bind fun q => kX0_unpackRow_55 g q.1 q.2.1 q.2.2.1 q.2.2.2
def fX0_unpackRow (r0 : Nat) (x1 : Int32) (r2 : Nat) (h : Zh) : Option Zh := zlet h fun g =>
  if zK g r0 = 0 then if ¬ (zI h r0 12) = 0 then zlet (x1 / (zI h r0 12)) fun y3 => zlet ((zI h r0 5) - ((1 : Int32))) fun y4 => (lp (fun q : Int32 × Int32 × Zh => bX0_unpackRow_15 g r0 r2 q.1 q.2.1 q.2.2) zB (y3, (y4, h))).bind fun q => kX0_unpackRow_15 g r0 r2 q.1 q.2.1 q.2.2.1 q.2.2.2 else none else none
/-! FifthCard Deck placeIn -/
def bX0_placeIn_3 (g : Zh) (r0 : Nat) (x1 : Int32) (x2 : Int32) (x4 : Int32) (h : Zh) : Option (Nat × Int32 × Zh) :=
  if zK g r0 = 0 then if (zI h r0 3) ≤ x4 then some (2, (x4, h)) else zc2 (fX0_cardAt x1 x4 h) fun v3 h2 => if v3 = x2 then some (1, (x4, h2)) else zlet (x4 + (1 : Int32)) fun y4 => some (0, (y4, h2)) else none
def kX0_placeIn_3 (g : Zh)  (e : Nat) (x4 : Int32) (h : Zh) : Option (Int32 × Zh) :=
  if e = 1 then some (x4, h) else some ((-1 : Int32), h)
def fX0_placeIn (r0 : Nat) (x1 : Int32) (x2 : Int32) (x3 : Int32) (h : Zh) : Option (Int32 × Zh) := zlet h fun g =>
  (lp (fun q : Int32 × Zh => bX0_placeIn_3 g r0 x1 x2 q.1 q.2) zB (x3, h)).bind fun q => kX0_placeIn_3 g q.1 q.2.1 q.2.2
/-! FifthCard Deck isShownOf -/
def jX0_isShownOf_32 (g : Zh) (r0 : Nat) (r1 : Nat) (x2 : Int32) (x4 : Int32) (t0 : Int32) (t1 : Int32) (t2 : Int32) (t3 : Nat) (h : Zh) : Option (Nat × Int32 × Int32 × Zh) :=
  if zK g t3 = 0 then zc2 (fX0_placeIn t3 t2 t1 t0 h) fun v6 h5 => if v6 < 0 then some (1, (0, (x4, h5))) else if (zI h5 r0 7) = 0 then zlet (v6 + ((1 : Int32))) fun y7 => zlet (x4 + (1 : Int32)) fun y8 => some (0, (y7, (y8, h5))) else if x4 ≤ 0 then zlet (v6 + ((1 : Int32))) fun y9 => zlet (x4 + (1 : Int32)) fun y10 => some (0, (y9, (y10, h5))) else if zin x4 (zL g r1) then if zin (x4 - ((1 : Int32))) (zL g r1) then if (zI h5 r1 (x4 - ((1 : Int32))).toNatClampNeg) ≤ (zI h5 r1 x4.toNatClampNeg) then zlet (v6 + ((1 : Int32))) fun y13 => zlet (x4 + (1 : Int32)) fun y14 => some (0, (y13, (y14, h5))) else some (1, (0, (x4, h5))) else none else none else none
def bX0_isShownOf_5 (g : Zh) (r0 : Nat) (r1 : Nat) (x2 : Int32) (x3 : Int32) (x4 : Int32) (h : Zh) : Option (Nat × Int32 × Int32 × Zh) :=
  if zK g r0 = 0 then if (zI h r0 5) ≤ x4 then some (2, (x3, (x4, h))) else if zK g r1 = 100 then if zin x4 (zL g r1) then if (zI h r0 6) = 0 then jX0_isShownOf_32 g r0 r1 x2 x4 ((0 : Int32)) (zI h r1 x4.toNatClampNeg) x2 r0 h else jX0_isShownOf_32 g r0 r1 x2 x4 x3 (zI h r1 x4.toNatClampNeg) x2 r0 h else none else none else none
def kX0_isShownOf_5 (g : Zh)  (e : Nat) (x3 : Int32) (x4 : Int32) (h : Zh) : Option (Int32 × Zh) :=
  if e = 1 then some ((0 : Int32), h) else some ((1 : Int32), h)
def fX0_isShownOf (r0 : Nat) (r1 : Nat) (x2 : Int32) (h : Zh) : Option (Int32 × Zh) := zlet h fun g =>
  (lp (fun q : Int32 × Int32 × Zh => bX0_isShownOf_5 g r0 r1 x2 q.1 q.2.1 q.2.2) zB ((0 : Int32), ((0 : Int32), h))).bind fun q => kX0_isShownOf_5 g q.1 q.2.1 q.2.2.1 q.2.2.2
/-! FifthCard Deck keptCard -/
def bX0_keptCard_6 (g : Zh) (r0 : Nat) (x2 : Int32) (x4 : Int32) (x5 : Int32) (h : Zh) : Option (Nat × Int32 × Int32 × Zh) :=
  if zK g r0 = 0 then if (zI h r0 3) ≤ x5 then some (1, (x4, (x5, h))) else zc2 (fX0_cardAt x2 x5 h) fun v3 h2 => zlet (x4 ||| (((1 : Int32)) <<< (v3 &&& 31))) fun y4 => zlet (x5 + (1 : Int32)) fun y5 => some (0, (y4, (y5, h2))) else none
def bX0_keptCard_37 (g : Zh) (r0 : Nat) (r1 : Nat) (x4 : Int32) (x5 : Int32) (h : Zh) : Option (Nat × Int32 × Int32 × Zh) :=
  if zK g r0 = 0 then if (zI h r0 5) ≤ x5 then some (1, (x4, (x5, h))) else if zK g r1 = 100 then if zin x5 (zL g r1) then zlet (x4 &&& ((((1 : Int32)) <<< ((zI h r1 x5.toNatClampNeg) &&& 31)) ^^^ ((-1 : Int32)))) fun y9 => zlet (x5 + (1 : Int32)) fun y10 => some (0, (y9, (y10, h))) else none else none else none
def bX0_keptCard_68 (g : Zh) (r0 : Nat) (x3 : Int32) (x4 : Int32) (x5 : Int32) (h : Zh) : Option (Nat × Int32 × Zh) :=
  if zK g r0 = 0 then if (zI h r0 0) ≤ x5 then some (2, (x5, h)) else if ((x4 >>> (x5 &&& 31)) &&& ((1 : Int32))) = ((1 : Int32)) then zc2 (fX0_lower x4 x5 h) fun v14 h13 => if v14 = x3 then some (1, (x5, h13)) else zlet (x5 + (1 : Int32)) fun y15 => some (0, (y15, h13)) else zlet (x5 + (1 : Int32)) fun y12 => some (0, (y12, h)) else none
def kX0_keptCard_68 (g : Zh)  (e : Nat) (x5 : Int32) (h : Zh) : Option (Int32 × Zh) :=
  if e = 1 then some (x5, h) else some ((-1 : Int32), h)
def kX0_keptCard_37 (g : Zh) (r0 : Nat) (x3 : Int32) (e : Nat) (x4 : Int32) (x5 : Int32) (h : Zh) : Option (Int32 × Zh) :=
  (lp (fun q : Int32 × Zh => bX0_keptCard_68 g r0 x3 x4 q.1 q.2) zB ((0 : Int32), h)).bind fun q => kX0_keptCard_68 g q.1 q.2.1 q.2.2
def kX0_keptCard_6 (g : Zh) (r0 : Nat) (r1 : Nat) (x3 : Int32) (e : Nat) (x4 : Int32) (x5 : Int32) (h : Zh) : Option (Int32 × Zh) :=
  (lp (fun q : Int32 × Int32 × Zh => bX0_keptCard_37 g r0 r1 q.1 q.2.1 q.2.2) zB (x4, ((0 : Int32), h))).bind fun q => kX0_keptCard_37 g r0 x3 q.1 q.2.1 q.2.2.1 q.2.2.2
def fX0_keptCard (r0 : Nat) (r1 : Nat) (x2 : Int32) (x3 : Int32) (h : Zh) : Option (Int32 × Zh) := zlet h fun g =>
  (lp (fun q : Int32 × Int32 × Zh => bX0_keptCard_6 g r0 x2 q.1 q.2.1 q.2.2) zB ((0 : Int32), ((0 : Int32), h))).bind fun q => kX0_keptCard_6 g r0 r1 x3 q.1 q.2.1 q.2.2.1 q.2.2.2
/-! FifthCard Diary clear -/
def fX1_clear (r0 : Nat) (h : Zh) : Option Zh := zlet h fun g =>
  if zK g r0 = 1 then zlet (zsI h r0 2 ((0 : Int32))) fun h2 => zlet (zsI h2 r0 3 ((0 : Int32))) fun h3 => some h3 else none
/-! FifthCard Diary add -/
def fX1_add (r0 : Nat) (x1 : Int32) (x2 : Int32) (h : Zh) : Option Zh := zlet h fun g =>
  if zK g r0 = 1 then if ((20 : Int32)) ≤ (zI h r0 2) then some h else (zR h r0 0).bind fun r_2 => if zK g r_2 = 100 then if zin (zI h r0 2) (zL g r_2) then zlet (zsI h r_2 (zI h r0 2).toNatClampNeg x1) fun h5 => (zR h5 r0 1).bind fun r_6 => if zK g r_6 = 100 then if zin (zI h5 r0 2) (zL g r_6) then zlet (zsI h5 r_6 (zI h5 r0 2).toNatClampNeg x2) fun h9 => zlet (zsI h9 r0 2 ((zI h9 r0 2) + ((1 : Int32)))) fun h10 => some h10 else none else none else none else none else none
/-! FifthCard Laid clear -/
def fX2_clear (r0 : Nat) (h : Zh) : Option Zh := zlet h fun g =>
  if zK g r0 = 2 then zlet (zsI h r0 2 ((0 : Int32))) fun h2 => zlet (zsI h2 r0 3 ((0 : Int32))) fun h3 => zlet (zsI h3 r0 4 ((0 : Int32))) fun h4 => zlet (zsI h4 r0 5 ((-2 : Int32))) fun h5 => zlet (zsI h5 r0 6 ((-2 : Int32))) fun h6 => zlet (zsI h6 r0 7 ((0 : Int32))) fun h7 => zlet (zsI h7 r0 8 ((0 : Int32))) fun h8 => zlet (zsI h8 r0 9 ((0 : Int32))) fun h9 => some h9 else none
/-! FifthCard Layer sortHand -/
def bX3_sortHand_2 (g : Zh) (r0 : Nat) (r1 : Nat) (x2 : Int32) (x3 : Int32) (h : Zh) : Option (Nat × Int32 × Zh) :=
  if zK g r1 = 0 then if (zI h r1 3) ≤ x3 then some (1, (x3, h)) else if zK g r0 = 3 then (zR h r0 0).bind fun r_3 => zc2 (fX0_cardAt x2 x3 h) fun v5 h4 => if zK g r_3 = 100 then if zin x3 (zL g r_3) then zlet (zsI h4 r_3 x3.toNatClampNeg v5) fun h8 => zlet (x3 + (1 : Int32)) fun y9 => some (0, (y9, h8)) else none else none else none else none
def kX3_sortHand_2 (g : Zh) (r0 : Nat) (r1 : Nat) (e : Nat) (x3 : Int32) (h : Zh) : Option Zh :=
  if zK g r1 = 0 then if (zI h r1 6) = 0 then some h else if zK g r0 = 3 then (zR h r0 0).bind fun r_12 => (fX0_sort r_12 (zI h r1 3) h).bind fun h13 => some h13 else none else none
def fX3_sortHand (r0 : Nat) (r1 : Nat) (x2 : Int32) (h : Zh) : Option Zh := zlet h fun g =>
  (lp (fun q : Int32 × Zh => bX3_sortHand_2 g r0 r1 x2 q.1 q.2) zB ((0 : Int32), h)).bind fun q => kX3_sortHand_2 g r0 r1 q.1 q.2.1 q.2.2
/-! FifthCard Layer keepPlace -/
def bX3_keepPlace_54 (g : Zh) (r0 : Nat) (r1 : Nat) (x3 : Int32) (x4 : Int32) (h : Zh) : Option (Nat × Int32 × Int32 × Zh) :=
  if zK g r1 = 0 then if (zI h r1 3) ≤ x4 then some (1, (x3, (x4, h))) else if zK g r0 = 3 then (zR h r0 0).bind fun r_6 => if zK g r_6 = 100 then if zin x4 (zL g r_6) then zlet (x3 + (zI h r_6 x4.toNatClampNeg)) fun y9 => zlet (x4 + (1 : Int32)) fun y10 => some (0, (y9, (y10, h))) else none else none else none else none
def kX3_keepPlace_54 (g : Zh) (r1 : Nat) (e : Nat) (x3 : Int32) (x4 : Int32) (h : Zh) : Option (Int32 × Zh) :=
  if zK g r1 = 0 then if ¬ (zI h r1 3) = 0 then some (zrem x3 (zI h r1 3), h) else none else none
def fX3_keepPlace (r0 : Nat) (r1 : Nat) (x2 : Int32) (h : Zh) : Option (Int32 × Zh) := zlet h fun g =>
  if x2 = 0 then some ((0 : Int32), h) else if x2 = 1 then if zK g r1 = 0 then some ((zI h r1 3) - ((1 : Int32)), h) else none else if x2 = 2 then if zK g r1 = 0 then if ¬ ((2 : Int32)) = 0 then some (((zI h r1 3) - (zI h r1 4)) / ((2 : Int32)), h) else none else none else (lp (fun q : Int32 × Int32 × Zh => bX3_keepPlace_54 g r0 r1 q.1 q.2.1 q.2.2) zB ((0 : Int32), ((0 : Int32), h))).bind fun q => kX3_keepPlace_54 g r1 q.1 q.2.1 q.2.2.1 q.2.2.2
/-! FifthCard Layer showOthers -/
def bX3_showOthers_9 (g : Zh) (r0 : Nat) (r1 : Nat) (x2 : Int32) (x3 : Int32) (x4 : Int32) (x5 : Int32) (x6 : Int32) (h : Zh) : Option (Nat × Int32 × Int32 × Int32 × Zh) :=
  if zK g r1 = 0 then if (zI h r1 3) ≤ x6 then some (1, (x4, (x5, (x6, h)))) else zc2 (fX0_cardAt x2 x6 h) fun v3 h2 => if ((x3 >>> (v3 &&& 31)) &&& ((1 : Int32))) = 0 then if zK g r0 = 3 then (zR h2 r0 1).bind fun r_6 => if zK g r_6 = 100 then if zin x5 (zL g r_6) then zlet (zsI h2 r_6 x5.toNatClampNeg v3) fun h9 => zlet (x5 + (1 : Int32)) fun y10 => zlet (x4 ||| (((1 : Int32)) <<< (v3 &&& 31))) fun y11 => zlet (x6 + (1 : Int32)) fun y12 => some (0, (y11, (y10, (y12, h9)))) else none else none else none else zlet (x6 + (1 : Int32)) fun y4 => some (0, (x4, (x5, (y4, h2)))) else none
def kX3_showOthers_9 (g : Zh)  (e : Nat) (x4 : Int32) (x5 : Int32) (x6 : Int32) (h : Zh) : Option (Int32 × Zh) :=
  some (x4, h)
def fX3_showOthers (r0 : Nat) (r1 : Nat) (x2 : Int32) (x3 : Int32) (h : Zh) : Option (Int32 × Zh) := zlet h fun g =>
  (lp (fun q : Int32 × Int32 × Int32 × Zh => bX3_showOthers_9 g r0 r1 x2 x3 q.1 q.2.1 q.2.2.1 q.2.2.2) zB ((0 : Int32), ((0 : Int32), ((0 : Int32), h)))).bind fun q => kX3_showOthers_9 g q.1 q.2.1 q.2.2.1 q.2.2.2.1 q.2.2.2.2
theorem dX0_handNumber_0 : decode cX0_handNumber 0 = .ok (.aload_n 0, 1) := by decide +kernel
theorem dX0_handNumber_1 : decode cX0_handNumber 1 = .ok (.getfield 36, 3) := by decide +kernel
theorem dX0_handNumber_4 : decode cX0_handNumber 4 = .ok (.ifCond .eq 13, 3) := by decide +kernel
theorem dX0_handNumber_7 : decode cX0_handNumber 7 = .ok (.aload_n 0, 1) := by decide +kernel
theorem dX0_handNumber_8 : decode cX0_handNumber 8 = .ok (.aload_n 1, 1) := by decide +kernel
theorem dX0_handNumber_9 : decode cX0_handNumber 9 = .ok (.aload_n 0, 1) := by decide +kernel
theorem dX0_handNumber_10 : decode cX0_handNumber 10 = .ok (.getfield 27, 3) := by decide +kernel
theorem dX0_handNumber_13 : decode cX0_handNumber 13 = .ok (.invokevirtual 67, 3) := by decide +kernel
theorem dX0_handNumber_16 : decode cX0_handNumber 16 = .ok (.ireturn, 1) := by decide +kernel
theorem dX0_handNumber_17 : decode cX0_handNumber 17 = .ok (.aload_n 1, 1) := by decide +kernel
theorem dX0_handNumber_18 : decode cX0_handNumber 18 = .ok (.aload_n 0, 1) := by decide +kernel
theorem dX0_handNumber_19 : decode cX0_handNumber 19 = .ok (.getfield 27, 3) := by decide +kernel
theorem dX0_handNumber_22 : decode cX0_handNumber 22 = .ok (.invokestatic 71, 3) := by decide +kernel
theorem dX0_handNumber_25 : decode cX0_handNumber 25 = .ok (.lconst 0, 1) := by decide +kernel
theorem dX0_handNumber_26 : decode cX0_handNumber 26 = .ok (.lstore_n 2, 1) := by decide +kernel
theorem dX0_handNumber_27 : decode cX0_handNumber 27 = .ok (.iconst 0, 1) := by decide +kernel
theorem dX0_handNumber_28 : decode cX0_handNumber 28 = .ok (.istore 4, 2) := by decide +kernel
theorem dX0_handNumber_30 : decode cX0_handNumber 30 = .ok (.iload 4, 2) := by decide +kernel
theorem dX0_handNumber_32 : decode cX0_handNumber 32 = .ok (.aload_n 0, 1) := by decide +kernel
theorem dX0_handNumber_33 : decode cX0_handNumber 33 = .ok (.getfield 27, 3) := by decide +kernel
theorem dX0_handNumber_36 : decode cX0_handNumber 36 = .ok (.if_icmp .ge 33, 3) := by decide +kernel
theorem dX0_handNumber_39 : decode cX0_handNumber 39 = .ok (.lload_n 2, 1) := by decide +kernel
theorem dX0_handNumber_40 : decode cX0_handNumber 40 = .ok (.aload_n 0, 1) := by decide +kernel
theorem dX0_handNumber_41 : decode cX0_handNumber 41 = .ok (.getfield 18, 3) := by decide +kernel
theorem dX0_handNumber_44 : decode cX0_handNumber 44 = .ok (.iconst 1, 1) := by decide +kernel
theorem dX0_handNumber_45 : decode cX0_handNumber 45 = .ok (.isub, 1) := by decide +kernel
theorem dX0_handNumber_46 : decode cX0_handNumber 46 = .ok (.aload_n 1, 1) := by decide +kernel
theorem dX0_handNumber_47 : decode cX0_handNumber 47 = .ok (.iload 4, 2) := by decide +kernel
theorem dX0_handNumber_49 : decode cX0_handNumber 49 = .ok (.iaload, 1) := by decide +kernel
theorem dX0_handNumber_50 : decode cX0_handNumber 50 = .ok (.isub, 1) := by decide +kernel
theorem dX0_handNumber_51 : decode cX0_handNumber 51 = .ok (.aload_n 0, 1) := by decide +kernel
theorem dX0_handNumber_52 : decode cX0_handNumber 52 = .ok (.getfield 27, 3) := by decide +kernel
theorem dX0_handNumber_55 : decode cX0_handNumber 55 = .ok (.iload 4, 2) := by decide +kernel
theorem dX0_handNumber_57 : decode cX0_handNumber 57 = .ok (.isub, 1) := by decide +kernel
theorem dX0_handNumber_58 : decode cX0_handNumber 58 = .ok (.invokestatic 60, 3) := by decide +kernel
theorem dX0_handNumber_61 : decode cX0_handNumber 61 = .ok (.ladd, 1) := by decide +kernel
theorem dX0_handNumber_62 : decode cX0_handNumber 62 = .ok (.lstore_n 2, 1) := by decide +kernel
theorem dX0_handNumber_63 : decode cX0_handNumber 63 = .ok (.iinc 4 1, 3) := by decide +kernel
theorem dX0_handNumber_66 : decode cX0_handNumber 66 = .ok (.goto (-36), 3) := by decide +kernel
theorem dX0_handNumber_69 : decode cX0_handNumber 69 = .ok (.aload_n 0, 1) := by decide +kernel
theorem dX0_handNumber_70 : decode cX0_handNumber 70 = .ok (.getfield 18, 3) := by decide +kernel
theorem dX0_handNumber_73 : decode cX0_handNumber 73 = .ok (.aload_n 0, 1) := by decide +kernel
theorem dX0_handNumber_74 : decode cX0_handNumber 74 = .ok (.getfield 27, 3) := by decide +kernel
theorem dX0_handNumber_77 : decode cX0_handNumber 77 = .ok (.invokestatic 60, 3) := by decide +kernel
theorem dX0_handNumber_80 : decode cX0_handNumber 80 = .ok (.lconst 1, 1) := by decide +kernel
theorem dX0_handNumber_81 : decode cX0_handNumber 81 = .ok (.lsub, 1) := by decide +kernel
theorem dX0_handNumber_82 : decode cX0_handNumber 82 = .ok (.lload_n 2, 1) := by decide +kernel
theorem dX0_handNumber_83 : decode cX0_handNumber 83 = .ok (.lsub, 1) := by decide +kernel
theorem dX0_handNumber_84 : decode cX0_handNumber 84 = .ok (.l2i, 1) := by decide +kernel
theorem dX0_handNumber_85 : decode cX0_handNumber 85 = .ok (.ireturn, 1) := by decide +kernel
theorem dX0_lower_0 : decode cX0_lower 0 = .ok (.iload_n 0, 1) := by decide +kernel
theorem dX0_lower_1 : decode cX0_lower 1 = .ok (.iconst 1, 1) := by decide +kernel
theorem dX0_lower_2 : decode cX0_lower 2 = .ok (.iload_n 1, 1) := by decide +kernel
theorem dX0_lower_3 : decode cX0_lower 3 = .ok (.ishl, 1) := by decide +kernel
theorem dX0_lower_4 : decode cX0_lower 4 = .ok (.iconst 1, 1) := by decide +kernel
theorem dX0_lower_5 : decode cX0_lower 5 = .ok (.isub, 1) := by decide +kernel
theorem dX0_lower_6 : decode cX0_lower 6 = .ok (.iand, 1) := by decide +kernel
theorem dX0_lower_7 : decode cX0_lower 7 = .ok (.invokestatic 75, 3) := by decide +kernel
theorem dX0_lower_10 : decode cX0_lower 10 = .ok (.ireturn, 1) := by decide +kernel
theorem dX0_unusedCard_0 : decode cX0_unusedCard 0 = .ok (.iload_n 2, 1) := by decide +kernel
theorem dX0_unusedCard_1 : decode cX0_unusedCard 1 = .ok (.istore_n 3, 1) := by decide +kernel
theorem dX0_unusedCard_2 : decode cX0_unusedCard 2 = .ok (.iconst 0, 1) := by decide +kernel
theorem dX0_unusedCard_3 : decode cX0_unusedCard 3 = .ok (.istore 4, 2) := by decide +kernel
theorem dX0_unusedCard_5 : decode cX0_unusedCard 5 = .ok (.iload 4, 2) := by decide +kernel
theorem dX0_unusedCard_7 : decode cX0_unusedCard 7 = .ok (.aload_n 0, 1) := by decide +kernel
theorem dX0_unusedCard_8 : decode cX0_unusedCard 8 = .ok (.getfield 18, 3) := by decide +kernel
theorem dX0_unusedCard_11 : decode cX0_unusedCard 11 = .ok (.if_icmp .ge 28, 3) := by decide +kernel
theorem dX0_unusedCard_14 : decode cX0_unusedCard 14 = .ok (.iload_n 1, 1) := by decide +kernel
theorem dX0_unusedCard_15 : decode cX0_unusedCard 15 = .ok (.iload 4, 2) := by decide +kernel
theorem dX0_unusedCard_17 : decode cX0_unusedCard 17 = .ok (.ishr, 1) := by decide +kernel
theorem dX0_unusedCard_18 : decode cX0_unusedCard 18 = .ok (.iconst 1, 1) := by decide +kernel
theorem dX0_unusedCard_19 : decode cX0_unusedCard 19 = .ok (.iand, 1) := by decide +kernel
theorem dX0_unusedCard_20 : decode cX0_unusedCard 20 = .ok (.ifCond .ne 13, 3) := by decide +kernel
theorem dX0_unusedCard_23 : decode cX0_unusedCard 23 = .ok (.iload_n 3, 1) := by decide +kernel
theorem dX0_unusedCard_24 : decode cX0_unusedCard 24 = .ok (.ifCond .ne 6, 3) := by decide +kernel
theorem dX0_unusedCard_27 : decode cX0_unusedCard 27 = .ok (.iload 4, 2) := by decide +kernel
theorem dX0_unusedCard_29 : decode cX0_unusedCard 29 = .ok (.ireturn, 1) := by decide +kernel
theorem dX0_unusedCard_30 : decode cX0_unusedCard 30 = .ok (.iinc 3 (-1), 3) := by decide +kernel
theorem dX0_unusedCard_33 : decode cX0_unusedCard 33 = .ok (.iinc 4 1, 3) := by decide +kernel
theorem dX0_unusedCard_36 : decode cX0_unusedCard 36 = .ok (.goto (-31), 3) := by decide +kernel
theorem dX0_unusedCard_39 : decode cX0_unusedCard 39 = .ok (.iconst 0, 1) := by decide +kernel
theorem dX0_unusedCard_40 : decode cX0_unusedCard 40 = .ok (.ireturn, 1) := by decide +kernel
theorem dX0_unpackRow_0 : decode cX0_unpackRow 0 = .ok (.iload_n 1, 1) := by decide +kernel
theorem dX0_unpackRow_1 : decode cX0_unpackRow 1 = .ok (.aload_n 0, 1) := by decide +kernel
theorem dX0_unpackRow_2 : decode cX0_unpackRow 2 = .ok (.getfield 15, 3) := by decide +kernel
theorem dX0_unpackRow_5 : decode cX0_unpackRow 5 = .ok (.idiv, 1) := by decide +kernel
theorem dX0_unpackRow_6 : decode cX0_unpackRow 6 = .ok (.istore_n 3, 1) := by decide +kernel
theorem dX0_unpackRow_7 : decode cX0_unpackRow 7 = .ok (.aload_n 0, 1) := by decide +kernel
theorem dX0_unpackRow_8 : decode cX0_unpackRow 8 = .ok (.getfield 33, 3) := by decide +kernel
theorem dX0_unpackRow_11 : decode cX0_unpackRow 11 = .ok (.iconst 1, 1) := by decide +kernel
theorem dX0_unpackRow_12 : decode cX0_unpackRow 12 = .ok (.isub, 1) := by decide +kernel
theorem dX0_unpackRow_13 : decode cX0_unpackRow 13 = .ok (.istore 4, 2) := by decide +kernel
theorem dX0_unpackRow_15 : decode cX0_unpackRow 15 = .ok (.iload 4, 2) := by decide +kernel
theorem dX0_unpackRow_17 : decode cX0_unpackRow 17 = .ok (.ifCond .lt 32, 3) := by decide +kernel
theorem dX0_unpackRow_20 : decode cX0_unpackRow 20 = .ok (.aload_n 2, 1) := by decide +kernel
theorem dX0_unpackRow_21 : decode cX0_unpackRow 21 = .ok (.iload 4, 2) := by decide +kernel
theorem dX0_unpackRow_23 : decode cX0_unpackRow 23 = .ok (.iload_n 3, 1) := by decide +kernel
theorem dX0_unpackRow_24 : decode cX0_unpackRow 24 = .ok (.aload_n 0, 1) := by decide +kernel
theorem dX0_unpackRow_25 : decode cX0_unpackRow 25 = .ok (.getfield 18, 3) := by decide +kernel
theorem dX0_unpackRow_28 : decode cX0_unpackRow 28 = .ok (.iload 4, 2) := by decide +kernel
theorem dX0_unpackRow_30 : decode cX0_unpackRow 30 = .ok (.isub, 1) := by decide +kernel
theorem dX0_unpackRow_31 : decode cX0_unpackRow 31 = .ok (.irem, 1) := by decide +kernel
theorem dX0_unpackRow_32 : decode cX0_unpackRow 32 = .ok (.iastore, 1) := by decide +kernel
theorem dX0_unpackRow_33 : decode cX0_unpackRow 33 = .ok (.iload_n 3, 1) := by decide +kernel
theorem dX0_unpackRow_34 : decode cX0_unpackRow 34 = .ok (.aload_n 0, 1) := by decide +kernel
theorem dX0_unpackRow_35 : decode cX0_unpackRow 35 = .ok (.getfield 18, 3) := by decide +kernel
theorem dX0_unpackRow_38 : decode cX0_unpackRow 38 = .ok (.iload 4, 2) := by decide +kernel
theorem dX0_unpackRow_40 : decode cX0_unpackRow 40 = .ok (.isub, 1) := by decide +kernel
theorem dX0_unpackRow_41 : decode cX0_unpackRow 41 = .ok (.idiv, 1) := by decide +kernel
theorem dX0_unpackRow_42 : decode cX0_unpackRow 42 = .ok (.istore_n 3, 1) := by decide +kernel
theorem dX0_unpackRow_43 : decode cX0_unpackRow 43 = .ok (.iinc 4 (-1), 3) := by decide +kernel
theorem dX0_unpackRow_46 : decode cX0_unpackRow 46 = .ok (.goto (-31), 3) := by decide +kernel
theorem dX0_unpackRow_49 : decode cX0_unpackRow 49 = .ok (.iconst 0, 1) := by decide +kernel
theorem dX0_unpackRow_50 : decode cX0_unpackRow 50 = .ok (.istore 4, 2) := by decide +kernel
theorem dX0_unpackRow_52 : decode cX0_unpackRow 52 = .ok (.iconst 0, 1) := by decide +kernel
theorem dX0_unpackRow_53 : decode cX0_unpackRow 53 = .ok (.istore 5, 2) := by decide +kernel
theorem dX0_unpackRow_55 : decode cX0_unpackRow 55 = .ok (.iload 5, 2) := by decide +kernel
theorem dX0_unpackRow_57 : decode cX0_unpackRow 57 = .ok (.aload_n 0, 1) := by decide +kernel
theorem dX0_unpackRow_58 : decode cX0_unpackRow 58 = .ok (.getfield 33, 3) := by decide +kernel
theorem dX0_unpackRow_61 : decode cX0_unpackRow 61 = .ok (.if_icmp .ge 34, 3) := by decide +kernel
theorem dX0_unpackRow_64 : decode cX0_unpackRow 64 = .ok (.aload_n 2, 1) := by decide +kernel
theorem dX0_unpackRow_65 : decode cX0_unpackRow 65 = .ok (.iload 5, 2) := by decide +kernel
theorem dX0_unpackRow_67 : decode cX0_unpackRow 67 = .ok (.aload_n 0, 1) := by decide +kernel
theorem dX0_unpackRow_68 : decode cX0_unpackRow 68 = .ok (.iload 4, 2) := by decide +kernel
theorem dX0_unpackRow_70 : decode cX0_unpackRow 70 = .ok (.aload_n 2, 1) := by decide +kernel
theorem dX0_unpackRow_71 : decode cX0_unpackRow 71 = .ok (.iload 5, 2) := by decide +kernel
theorem dX0_unpackRow_73 : decode cX0_unpackRow 73 = .ok (.iaload, 1) := by decide +kernel
theorem dX0_unpackRow_74 : decode cX0_unpackRow 74 = .ok (.invokevirtual 81, 3) := by decide +kernel
theorem dX0_unpackRow_77 : decode cX0_unpackRow 77 = .ok (.iastore, 1) := by decide +kernel
theorem dX0_unpackRow_78 : decode cX0_unpackRow 78 = .ok (.iload 4, 2) := by decide +kernel
theorem dX0_unpackRow_80 : decode cX0_unpackRow 80 = .ok (.iconst 1, 1) := by decide +kernel
theorem dX0_unpackRow_81 : decode cX0_unpackRow 81 = .ok (.aload_n 2, 1) := by decide +kernel
theorem dX0_unpackRow_82 : decode cX0_unpackRow 82 = .ok (.iload 5, 2) := by decide +kernel
theorem dX0_unpackRow_84 : decode cX0_unpackRow 84 = .ok (.iaload, 1) := by decide +kernel
theorem dX0_unpackRow_85 : decode cX0_unpackRow 85 = .ok (.ishl, 1) := by decide +kernel
theorem dX0_unpackRow_86 : decode cX0_unpackRow 86 = .ok (.ior, 1) := by decide +kernel
theorem dX0_unpackRow_87 : decode cX0_unpackRow 87 = .ok (.istore 4, 2) := by decide +kernel
theorem dX0_unpackRow_89 : decode cX0_unpackRow 89 = .ok (.iinc 5 1, 3) := by decide +kernel
theorem dX0_unpackRow_92 : decode cX0_unpackRow 92 = .ok (.goto (-37), 3) := by decide +kernel
theorem dX0_unpackRow_95 : decode cX0_unpackRow 95 = .ok (.return_, 1) := by decide +kernel
theorem dX0_placeIn_0 : decode cX0_placeIn 0 = .ok (.iload_n 3, 1) := by decide +kernel
theorem dX0_placeIn_1 : decode cX0_placeIn 1 = .ok (.istore 4, 2) := by decide +kernel
theorem dX0_placeIn_3 : decode cX0_placeIn 3 = .ok (.iload 4, 2) := by decide +kernel
theorem dX0_placeIn_5 : decode cX0_placeIn 5 = .ok (.aload_n 0, 1) := by decide +kernel
theorem dX0_placeIn_6 : decode cX0_placeIn 6 = .ok (.getfield 27, 3) := by decide +kernel
theorem dX0_placeIn_9 : decode cX0_placeIn 9 = .ok (.if_icmp .ge 22, 3) := by decide +kernel
theorem dX0_placeIn_12 : decode cX0_placeIn 12 = .ok (.iload_n 1, 1) := by decide +kernel
theorem dX0_placeIn_13 : decode cX0_placeIn 13 = .ok (.iload 4, 2) := by decide +kernel
theorem dX0_placeIn_15 : decode cX0_placeIn 15 = .ok (.invokestatic 89, 3) := by decide +kernel
theorem dX0_placeIn_18 : decode cX0_placeIn 18 = .ok (.iload_n 2, 1) := by decide +kernel
theorem dX0_placeIn_19 : decode cX0_placeIn 19 = .ok (.if_icmp .ne 6, 3) := by decide +kernel
theorem dX0_placeIn_22 : decode cX0_placeIn 22 = .ok (.iload 4, 2) := by decide +kernel
theorem dX0_placeIn_24 : decode cX0_placeIn 24 = .ok (.ireturn, 1) := by decide +kernel
theorem dX0_placeIn_25 : decode cX0_placeIn 25 = .ok (.iinc 4 1, 3) := by decide +kernel
theorem dX0_placeIn_28 : decode cX0_placeIn 28 = .ok (.goto (-25), 3) := by decide +kernel
theorem dX0_placeIn_31 : decode cX0_placeIn 31 = .ok (.iconst (-1), 1) := by decide +kernel
theorem dX0_placeIn_32 : decode cX0_placeIn 32 = .ok (.ireturn, 1) := by decide +kernel
theorem dX0_isShownOf_0 : decode cX0_isShownOf 0 = .ok (.iconst 0, 1) := by decide +kernel
theorem dX0_isShownOf_1 : decode cX0_isShownOf 1 = .ok (.istore_n 3, 1) := by decide +kernel
theorem dX0_isShownOf_2 : decode cX0_isShownOf 2 = .ok (.iconst 0, 1) := by decide +kernel
theorem dX0_isShownOf_3 : decode cX0_isShownOf 3 = .ok (.istore 4, 2) := by decide +kernel
theorem dX0_isShownOf_5 : decode cX0_isShownOf 5 = .ok (.iload 4, 2) := by decide +kernel
theorem dX0_isShownOf_7 : decode cX0_isShownOf 7 = .ok (.aload_n 0, 1) := by decide +kernel
theorem dX0_isShownOf_8 : decode cX0_isShownOf 8 = .ok (.getfield 33, 3) := by decide +kernel
theorem dX0_isShownOf_11 : decode cX0_isShownOf 11 = .ok (.if_icmp .ge 69, 3) := by decide +kernel
theorem dX0_isShownOf_14 : decode cX0_isShownOf 14 = .ok (.aload_n 0, 1) := by decide +kernel
theorem dX0_isShownOf_15 : decode cX0_isShownOf 15 = .ok (.iload_n 2, 1) := by decide +kernel
theorem dX0_isShownOf_16 : decode cX0_isShownOf 16 = .ok (.aload_n 1, 1) := by decide +kernel
theorem dX0_isShownOf_17 : decode cX0_isShownOf 17 = .ok (.iload 4, 2) := by decide +kernel
theorem dX0_isShownOf_19 : decode cX0_isShownOf 19 = .ok (.iaload, 1) := by decide +kernel
theorem dX0_isShownOf_20 : decode cX0_isShownOf 20 = .ok (.aload_n 0, 1) := by decide +kernel
theorem dX0_isShownOf_21 : decode cX0_isShownOf 21 = .ok (.getfield 36, 3) := by decide +kernel
theorem dX0_isShownOf_24 : decode cX0_isShownOf 24 = .ok (.ifCond .eq 7, 3) := by decide +kernel
theorem dX0_isShownOf_27 : decode cX0_isShownOf 27 = .ok (.iload_n 3, 1) := by decide +kernel
theorem dX0_isShownOf_28 : decode cX0_isShownOf 28 = .ok (.goto 4, 3) := by decide +kernel
theorem dX0_isShownOf_31 : decode cX0_isShownOf 31 = .ok (.iconst 0, 1) := by decide +kernel
theorem dX0_isShownOf_32 : decode cX0_isShownOf 32 = .ok (.invokevirtual 85, 3) := by decide +kernel
theorem dX0_isShownOf_35 : decode cX0_isShownOf 35 = .ok (.istore 5, 2) := by decide +kernel
theorem dX0_isShownOf_37 : decode cX0_isShownOf 37 = .ok (.iload 5, 2) := by decide +kernel
theorem dX0_isShownOf_39 : decode cX0_isShownOf 39 = .ok (.ifCond .lt 28, 3) := by decide +kernel
theorem dX0_isShownOf_42 : decode cX0_isShownOf 42 = .ok (.aload_n 0, 1) := by decide +kernel
theorem dX0_isShownOf_43 : decode cX0_isShownOf 43 = .ok (.getfield 40, 3) := by decide +kernel
theorem dX0_isShownOf_46 : decode cX0_isShownOf 46 = .ok (.ifCond .eq 23, 3) := by decide +kernel
theorem dX0_isShownOf_49 : decode cX0_isShownOf 49 = .ok (.iload 4, 2) := by decide +kernel
theorem dX0_isShownOf_51 : decode cX0_isShownOf 51 = .ok (.ifCond .le 18, 3) := by decide +kernel
theorem dX0_isShownOf_54 : decode cX0_isShownOf 54 = .ok (.aload_n 1, 1) := by decide +kernel
theorem dX0_isShownOf_55 : decode cX0_isShownOf 55 = .ok (.iload 4, 2) := by decide +kernel
theorem dX0_isShownOf_57 : decode cX0_isShownOf 57 = .ok (.iaload, 1) := by decide +kernel
theorem dX0_isShownOf_58 : decode cX0_isShownOf 58 = .ok (.aload_n 1, 1) := by decide +kernel
theorem dX0_isShownOf_59 : decode cX0_isShownOf 59 = .ok (.iload 4, 2) := by decide +kernel
theorem dX0_isShownOf_61 : decode cX0_isShownOf 61 = .ok (.iconst 1, 1) := by decide +kernel
theorem dX0_isShownOf_62 : decode cX0_isShownOf 62 = .ok (.isub, 1) := by decide +kernel
theorem dX0_isShownOf_63 : decode cX0_isShownOf 63 = .ok (.iaload, 1) := by decide +kernel
theorem dX0_isShownOf_64 : decode cX0_isShownOf 64 = .ok (.if_icmp .ge 5, 3) := by decide +kernel
theorem dX0_isShownOf_67 : decode cX0_isShownOf 67 = .ok (.iconst 0, 1) := by decide +kernel
theorem dX0_isShownOf_68 : decode cX0_isShownOf 68 = .ok (.ireturn, 1) := by decide +kernel
theorem dX0_isShownOf_69 : decode cX0_isShownOf 69 = .ok (.iload 5, 2) := by decide +kernel
theorem dX0_isShownOf_71 : decode cX0_isShownOf 71 = .ok (.iconst 1, 1) := by decide +kernel
theorem dX0_isShownOf_72 : decode cX0_isShownOf 72 = .ok (.iadd, 1) := by decide +kernel
theorem dX0_isShownOf_73 : decode cX0_isShownOf 73 = .ok (.istore_n 3, 1) := by decide +kernel
theorem dX0_isShownOf_74 : decode cX0_isShownOf 74 = .ok (.iinc 4 1, 3) := by decide +kernel
theorem dX0_isShownOf_77 : decode cX0_isShownOf 77 = .ok (.goto (-72), 3) := by decide +kernel
theorem dX0_isShownOf_80 : decode cX0_isShownOf 80 = .ok (.iconst 1, 1) := by decide +kernel
theorem dX0_isShownOf_81 : decode cX0_isShownOf 81 = .ok (.ireturn, 1) := by decide +kernel
theorem dX0_keptCard_0 : decode cX0_keptCard 0 = .ok (.iconst 0, 1) := by decide +kernel
theorem dX0_keptCard_1 : decode cX0_keptCard 1 = .ok (.istore 4, 2) := by decide +kernel
theorem dX0_keptCard_3 : decode cX0_keptCard 3 = .ok (.iconst 0, 1) := by decide +kernel
theorem dX0_keptCard_4 : decode cX0_keptCard 4 = .ok (.istore 5, 2) := by decide +kernel
theorem dX0_keptCard_6 : decode cX0_keptCard 6 = .ok (.iload 5, 2) := by decide +kernel
theorem dX0_keptCard_8 : decode cX0_keptCard 8 = .ok (.aload_n 0, 1) := by decide +kernel
theorem dX0_keptCard_9 : decode cX0_keptCard 9 = .ok (.getfield 27, 3) := by decide +kernel
theorem dX0_keptCard_12 : decode cX0_keptCard 12 = .ok (.if_icmp .ge 22, 3) := by decide +kernel
theorem dX0_keptCard_15 : decode cX0_keptCard 15 = .ok (.iload 4, 2) := by decide +kernel
theorem dX0_keptCard_17 : decode cX0_keptCard 17 = .ok (.iconst 1, 1) := by decide +kernel
theorem dX0_keptCard_18 : decode cX0_keptCard 18 = .ok (.iload_n 2, 1) := by decide +kernel
theorem dX0_keptCard_19 : decode cX0_keptCard 19 = .ok (.iload 5, 2) := by decide +kernel
theorem dX0_keptCard_21 : decode cX0_keptCard 21 = .ok (.invokestatic 89, 3) := by decide +kernel
theorem dX0_keptCard_24 : decode cX0_keptCard 24 = .ok (.ishl, 1) := by decide +kernel
theorem dX0_keptCard_25 : decode cX0_keptCard 25 = .ok (.ior, 1) := by decide +kernel
theorem dX0_keptCard_26 : decode cX0_keptCard 26 = .ok (.istore 4, 2) := by decide +kernel
theorem dX0_keptCard_28 : decode cX0_keptCard 28 = .ok (.iinc 5 1, 3) := by decide +kernel
theorem dX0_keptCard_31 : decode cX0_keptCard 31 = .ok (.goto (-25), 3) := by decide +kernel
theorem dX0_keptCard_34 : decode cX0_keptCard 34 = .ok (.iconst 0, 1) := by decide +kernel
theorem dX0_keptCard_35 : decode cX0_keptCard 35 = .ok (.istore 5, 2) := by decide +kernel
theorem dX0_keptCard_37 : decode cX0_keptCard 37 = .ok (.iload 5, 2) := by decide +kernel
theorem dX0_keptCard_39 : decode cX0_keptCard 39 = .ok (.aload_n 0, 1) := by decide +kernel
theorem dX0_keptCard_40 : decode cX0_keptCard 40 = .ok (.getfield 33, 3) := by decide +kernel
theorem dX0_keptCard_43 : decode cX0_keptCard 43 = .ok (.if_icmp .ge 22, 3) := by decide +kernel
theorem dX0_keptCard_46 : decode cX0_keptCard 46 = .ok (.iload 4, 2) := by decide +kernel
theorem dX0_keptCard_48 : decode cX0_keptCard 48 = .ok (.iconst 1, 1) := by decide +kernel
theorem dX0_keptCard_49 : decode cX0_keptCard 49 = .ok (.aload_n 1, 1) := by decide +kernel
theorem dX0_keptCard_50 : decode cX0_keptCard 50 = .ok (.iload 5, 2) := by decide +kernel
theorem dX0_keptCard_52 : decode cX0_keptCard 52 = .ok (.iaload, 1) := by decide +kernel
theorem dX0_keptCard_53 : decode cX0_keptCard 53 = .ok (.ishl, 1) := by decide +kernel
theorem dX0_keptCard_54 : decode cX0_keptCard 54 = .ok (.iconst (-1), 1) := by decide +kernel
theorem dX0_keptCard_55 : decode cX0_keptCard 55 = .ok (.ixor, 1) := by decide +kernel
theorem dX0_keptCard_56 : decode cX0_keptCard 56 = .ok (.iand, 1) := by decide +kernel
theorem dX0_keptCard_57 : decode cX0_keptCard 57 = .ok (.istore 4, 2) := by decide +kernel
theorem dX0_keptCard_59 : decode cX0_keptCard 59 = .ok (.iinc 5 1, 3) := by decide +kernel
theorem dX0_keptCard_62 : decode cX0_keptCard 62 = .ok (.goto (-25), 3) := by decide +kernel
theorem dX0_keptCard_65 : decode cX0_keptCard 65 = .ok (.iconst 0, 1) := by decide +kernel
theorem dX0_keptCard_66 : decode cX0_keptCard 66 = .ok (.istore 5, 2) := by decide +kernel
theorem dX0_keptCard_68 : decode cX0_keptCard 68 = .ok (.iload 5, 2) := by decide +kernel
theorem dX0_keptCard_70 : decode cX0_keptCard 70 = .ok (.aload_n 0, 1) := by decide +kernel
theorem dX0_keptCard_71 : decode cX0_keptCard 71 = .ok (.getfield 18, 3) := by decide +kernel
theorem dX0_keptCard_74 : decode cX0_keptCard 74 = .ok (.if_icmp .ge 34, 3) := by decide +kernel
theorem dX0_keptCard_77 : decode cX0_keptCard 77 = .ok (.iload 4, 2) := by decide +kernel
theorem dX0_keptCard_79 : decode cX0_keptCard 79 = .ok (.iload 5, 2) := by decide +kernel
theorem dX0_keptCard_81 : decode cX0_keptCard 81 = .ok (.ishr, 1) := by decide +kernel
theorem dX0_keptCard_82 : decode cX0_keptCard 82 = .ok (.iconst 1, 1) := by decide +kernel
theorem dX0_keptCard_83 : decode cX0_keptCard 83 = .ok (.iand, 1) := by decide +kernel
theorem dX0_keptCard_84 : decode cX0_keptCard 84 = .ok (.iconst 1, 1) := by decide +kernel
theorem dX0_keptCard_85 : decode cX0_keptCard 85 = .ok (.if_icmp .ne 17, 3) := by decide +kernel
theorem dX0_keptCard_88 : decode cX0_keptCard 88 = .ok (.iload 4, 2) := by decide +kernel
theorem dX0_keptCard_90 : decode cX0_keptCard 90 = .ok (.iload 5, 2) := by decide +kernel
theorem dX0_keptCard_92 : decode cX0_keptCard 92 = .ok (.invokestatic 92, 3) := by decide +kernel
theorem dX0_keptCard_95 : decode cX0_keptCard 95 = .ok (.iload_n 3, 1) := by decide +kernel
theorem dX0_keptCard_96 : decode cX0_keptCard 96 = .ok (.if_icmp .ne 6, 3) := by decide +kernel
theorem dX0_keptCard_99 : decode cX0_keptCard 99 = .ok (.iload 5, 2) := by decide +kernel
theorem dX0_keptCard_101 : decode cX0_keptCard 101 = .ok (.ireturn, 1) := by decide +kernel
theorem dX0_keptCard_102 : decode cX0_keptCard 102 = .ok (.iinc 5 1, 3) := by decide +kernel
theorem dX0_keptCard_105 : decode cX0_keptCard 105 = .ok (.goto (-37), 3) := by decide +kernel
theorem dX0_keptCard_108 : decode cX0_keptCard 108 = .ok (.iconst (-1), 1) := by decide +kernel
theorem dX0_keptCard_109 : decode cX0_keptCard 109 = .ok (.ireturn, 1) := by decide +kernel
theorem dX1_clear_0 : decode cX1_clear 0 = .ok (.aload_n 0, 1) := by decide +kernel
theorem dX1_clear_1 : decode cX1_clear 1 = .ok (.iconst 0, 1) := by decide +kernel
theorem dX1_clear_2 : decode cX1_clear 2 = .ok (.putfield 18, 3) := by decide +kernel
theorem dX1_clear_5 : decode cX1_clear 5 = .ok (.aload_n 0, 1) := by decide +kernel
theorem dX1_clear_6 : decode cX1_clear 6 = .ok (.iconst 0, 1) := by decide +kernel
theorem dX1_clear_7 : decode cX1_clear 7 = .ok (.putfield 22, 3) := by decide +kernel
theorem dX1_clear_10 : decode cX1_clear 10 = .ok (.return_, 1) := by decide +kernel
theorem dX1_add_0 : decode cX1_add 0 = .ok (.aload_n 0, 1) := by decide +kernel
theorem dX1_add_1 : decode cX1_add 1 = .ok (.getfield 18, 3) := by decide +kernel
theorem dX1_add_4 : decode cX1_add 4 = .ok (.bipush 20, 2) := by decide +kernel
theorem dX1_add_6 : decode cX1_add 6 = .ok (.if_icmp .ge 33, 3) := by decide +kernel
theorem dX1_add_9 : decode cX1_add 9 = .ok (.aload_n 0, 1) := by decide +kernel
theorem dX1_add_10 : decode cX1_add 10 = .ok (.getfield 9, 3) := by decide +kernel
theorem dX1_add_13 : decode cX1_add 13 = .ok (.aload_n 0, 1) := by decide +kernel
theorem dX1_add_14 : decode cX1_add 14 = .ok (.getfield 18, 3) := by decide +kernel
theorem dX1_add_17 : decode cX1_add 17 = .ok (.iload_n 1, 1) := by decide +kernel
theorem dX1_add_18 : decode cX1_add 18 = .ok (.iastore, 1) := by decide +kernel
theorem dX1_add_19 : decode cX1_add 19 = .ok (.aload_n 0, 1) := by decide +kernel
theorem dX1_add_20 : decode cX1_add 20 = .ok (.getfield 15, 3) := by decide +kernel
theorem dX1_add_23 : decode cX1_add 23 = .ok (.aload_n 0, 1) := by decide +kernel
theorem dX1_add_24 : decode cX1_add 24 = .ok (.getfield 18, 3) := by decide +kernel
theorem dX1_add_27 : decode cX1_add 27 = .ok (.iload_n 2, 1) := by decide +kernel
theorem dX1_add_28 : decode cX1_add 28 = .ok (.iastore, 1) := by decide +kernel
theorem dX1_add_29 : decode cX1_add 29 = .ok (.aload_n 0, 1) := by decide +kernel
theorem dX1_add_30 : decode cX1_add 30 = .ok (.dup, 1) := by decide +kernel
theorem dX1_add_31 : decode cX1_add 31 = .ok (.getfield 18, 3) := by decide +kernel
theorem dX1_add_34 : decode cX1_add 34 = .ok (.iconst 1, 1) := by decide +kernel
theorem dX1_add_35 : decode cX1_add 35 = .ok (.iadd, 1) := by decide +kernel
theorem dX1_add_36 : decode cX1_add 36 = .ok (.putfield 18, 3) := by decide +kernel
theorem dX1_add_39 : decode cX1_add 39 = .ok (.return_, 1) := by decide +kernel
theorem dX2_clear_0 : decode cX2_clear 0 = .ok (.aload_n 0, 1) := by decide +kernel
theorem dX2_clear_1 : decode cX2_clear 1 = .ok (.iconst 0, 1) := by decide +kernel
theorem dX2_clear_2 : decode cX2_clear 2 = .ok (.putfield 19, 3) := by decide +kernel
theorem dX2_clear_5 : decode cX2_clear 5 = .ok (.aload_n 0, 1) := by decide +kernel
theorem dX2_clear_6 : decode cX2_clear 6 = .ok (.iconst 0, 1) := by decide +kernel
theorem dX2_clear_7 : decode cX2_clear 7 = .ok (.putfield 23, 3) := by decide +kernel
theorem dX2_clear_10 : decode cX2_clear 10 = .ok (.aload_n 0, 1) := by decide +kernel
theorem dX2_clear_11 : decode cX2_clear 11 = .ok (.iconst 0, 1) := by decide +kernel
theorem dX2_clear_12 : decode cX2_clear 12 = .ok (.putfield 26, 3) := by decide +kernel
theorem dX2_clear_15 : decode cX2_clear 15 = .ok (.aload_n 0, 1) := by decide +kernel
theorem dX2_clear_16 : decode cX2_clear 16 = .ok (.bipush (-2), 2) := by decide +kernel
theorem dX2_clear_18 : decode cX2_clear 18 = .ok (.putfield 29, 3) := by decide +kernel
theorem dX2_clear_21 : decode cX2_clear 21 = .ok (.aload_n 0, 1) := by decide +kernel
theorem dX2_clear_22 : decode cX2_clear 22 = .ok (.bipush (-2), 2) := by decide +kernel
theorem dX2_clear_24 : decode cX2_clear 24 = .ok (.putfield 32, 3) := by decide +kernel
theorem dX2_clear_27 : decode cX2_clear 27 = .ok (.aload_n 0, 1) := by decide +kernel
theorem dX2_clear_28 : decode cX2_clear 28 = .ok (.iconst 0, 1) := by decide +kernel
theorem dX2_clear_29 : decode cX2_clear 29 = .ok (.putfield 35, 3) := by decide +kernel
theorem dX2_clear_32 : decode cX2_clear 32 = .ok (.aload_n 0, 1) := by decide +kernel
theorem dX2_clear_33 : decode cX2_clear 33 = .ok (.iconst 0, 1) := by decide +kernel
theorem dX2_clear_34 : decode cX2_clear 34 = .ok (.putfield 38, 3) := by decide +kernel
theorem dX2_clear_37 : decode cX2_clear 37 = .ok (.aload_n 0, 1) := by decide +kernel
theorem dX2_clear_38 : decode cX2_clear 38 = .ok (.iconst 0, 1) := by decide +kernel
theorem dX2_clear_39 : decode cX2_clear 39 = .ok (.putfield 41, 3) := by decide +kernel
theorem dX2_clear_42 : decode cX2_clear 42 = .ok (.return_, 1) := by decide +kernel
theorem dX3_sortHand_0 : decode cX3_sortHand 0 = .ok (.iconst 0, 1) := by decide +kernel
theorem dX3_sortHand_1 : decode cX3_sortHand 1 = .ok (.istore_n 3, 1) := by decide +kernel
theorem dX3_sortHand_2 : decode cX3_sortHand 2 = .ok (.iload_n 3, 1) := by decide +kernel
theorem dX3_sortHand_3 : decode cX3_sortHand 3 = .ok (.aload_n 1, 1) := by decide +kernel
theorem dX3_sortHand_4 : decode cX3_sortHand 4 = .ok (.getfield 32, 3) := by decide +kernel
theorem dX3_sortHand_7 : decode cX3_sortHand 7 = .ok (.if_icmp .ge 20, 3) := by decide +kernel
theorem dX3_sortHand_10 : decode cX3_sortHand 10 = .ok (.aload_n 0, 1) := by decide +kernel
theorem dX3_sortHand_11 : decode cX3_sortHand 11 = .ok (.getfield 9, 3) := by decide +kernel
theorem dX3_sortHand_14 : decode cX3_sortHand 14 = .ok (.iload_n 3, 1) := by decide +kernel
theorem dX3_sortHand_15 : decode cX3_sortHand 15 = .ok (.iload_n 2, 1) := by decide +kernel
theorem dX3_sortHand_16 : decode cX3_sortHand 16 = .ok (.iload_n 3, 1) := by decide +kernel
theorem dX3_sortHand_17 : decode cX3_sortHand 17 = .ok (.invokestatic 58, 3) := by decide +kernel
theorem dX3_sortHand_20 : decode cX3_sortHand 20 = .ok (.iastore, 1) := by decide +kernel
theorem dX3_sortHand_21 : decode cX3_sortHand 21 = .ok (.iinc 3 1, 3) := by decide +kernel
theorem dX3_sortHand_24 : decode cX3_sortHand 24 = .ok (.goto (-22), 3) := by decide +kernel
theorem dX3_sortHand_27 : decode cX3_sortHand 27 = .ok (.aload_n 1, 1) := by decide +kernel
theorem dX3_sortHand_28 : decode cX3_sortHand 28 = .ok (.getfield 61, 3) := by decide +kernel
theorem dX3_sortHand_31 : decode cX3_sortHand 31 = .ok (.ifCond .eq 14, 3) := by decide +kernel
theorem dX3_sortHand_34 : decode cX3_sortHand 34 = .ok (.aload_n 0, 1) := by decide +kernel
theorem dX3_sortHand_35 : decode cX3_sortHand 35 = .ok (.getfield 9, 3) := by decide +kernel
theorem dX3_sortHand_38 : decode cX3_sortHand 38 = .ok (.aload_n 1, 1) := by decide +kernel
theorem dX3_sortHand_39 : decode cX3_sortHand 39 = .ok (.getfield 32, 3) := by decide +kernel
theorem dX3_sortHand_42 : decode cX3_sortHand 42 = .ok (.invokestatic 65, 3) := by decide +kernel
theorem dX3_sortHand_45 : decode cX3_sortHand 45 = .ok (.return_, 1) := by decide +kernel
theorem dX3_keepPlace_0 : decode cX3_keepPlace 0 = .ok (.iload_n 2, 1) := by decide +kernel
theorem dX3_keepPlace_1 : decode cX3_keepPlace 1 = .ok (.tableswitch 48 0 2 #[27, 29, 36], 27) := by decide +kernel
theorem dX3_keepPlace_28 : decode cX3_keepPlace 28 = .ok (.iconst 0, 1) := by decide +kernel
theorem dX3_keepPlace_29 : decode cX3_keepPlace 29 = .ok (.ireturn, 1) := by decide +kernel
theorem dX3_keepPlace_30 : decode cX3_keepPlace 30 = .ok (.aload_n 1, 1) := by decide +kernel
theorem dX3_keepPlace_31 : decode cX3_keepPlace 31 = .ok (.getfield 32, 3) := by decide +kernel
theorem dX3_keepPlace_34 : decode cX3_keepPlace 34 = .ok (.iconst 1, 1) := by decide +kernel
theorem dX3_keepPlace_35 : decode cX3_keepPlace 35 = .ok (.isub, 1) := by decide +kernel
theorem dX3_keepPlace_36 : decode cX3_keepPlace 36 = .ok (.ireturn, 1) := by decide +kernel
theorem dX3_keepPlace_37 : decode cX3_keepPlace 37 = .ok (.aload_n 1, 1) := by decide +kernel
theorem dX3_keepPlace_38 : decode cX3_keepPlace 38 = .ok (.getfield 32, 3) := by decide +kernel
theorem dX3_keepPlace_41 : decode cX3_keepPlace 41 = .ok (.aload_n 1, 1) := by decide +kernel
theorem dX3_keepPlace_42 : decode cX3_keepPlace 42 = .ok (.getfield 26, 3) := by decide +kernel
theorem dX3_keepPlace_45 : decode cX3_keepPlace 45 = .ok (.isub, 1) := by decide +kernel
theorem dX3_keepPlace_46 : decode cX3_keepPlace 46 = .ok (.iconst 2, 1) := by decide +kernel
theorem dX3_keepPlace_47 : decode cX3_keepPlace 47 = .ok (.idiv, 1) := by decide +kernel
theorem dX3_keepPlace_48 : decode cX3_keepPlace 48 = .ok (.ireturn, 1) := by decide +kernel
theorem dX3_keepPlace_49 : decode cX3_keepPlace 49 = .ok (.iconst 0, 1) := by decide +kernel
theorem dX3_keepPlace_50 : decode cX3_keepPlace 50 = .ok (.istore_n 3, 1) := by decide +kernel
theorem dX3_keepPlace_51 : decode cX3_keepPlace 51 = .ok (.iconst 0, 1) := by decide +kernel
theorem dX3_keepPlace_52 : decode cX3_keepPlace 52 = .ok (.istore 4, 2) := by decide +kernel
theorem dX3_keepPlace_54 : decode cX3_keepPlace 54 = .ok (.iload 4, 2) := by decide +kernel
theorem dX3_keepPlace_56 : decode cX3_keepPlace 56 = .ok (.aload_n 1, 1) := by decide +kernel
theorem dX3_keepPlace_57 : decode cX3_keepPlace 57 = .ok (.getfield 32, 3) := by decide +kernel
theorem dX3_keepPlace_60 : decode cX3_keepPlace 60 = .ok (.if_icmp .ge 19, 3) := by decide +kernel
theorem dX3_keepPlace_63 : decode cX3_keepPlace 63 = .ok (.iload_n 3, 1) := by decide +kernel
theorem dX3_keepPlace_64 : decode cX3_keepPlace 64 = .ok (.aload_n 0, 1) := by decide +kernel
theorem dX3_keepPlace_65 : decode cX3_keepPlace 65 = .ok (.getfield 9, 3) := by decide +kernel
theorem dX3_keepPlace_68 : decode cX3_keepPlace 68 = .ok (.iload 4, 2) := by decide +kernel
theorem dX3_keepPlace_70 : decode cX3_keepPlace 70 = .ok (.iaload, 1) := by decide +kernel
theorem dX3_keepPlace_71 : decode cX3_keepPlace 71 = .ok (.iadd, 1) := by decide +kernel
theorem dX3_keepPlace_72 : decode cX3_keepPlace 72 = .ok (.istore_n 3, 1) := by decide +kernel
theorem dX3_keepPlace_73 : decode cX3_keepPlace 73 = .ok (.iinc 4 1, 3) := by decide +kernel
theorem dX3_keepPlace_76 : decode cX3_keepPlace 76 = .ok (.goto (-22), 3) := by decide +kernel
theorem dX3_keepPlace_79 : decode cX3_keepPlace 79 = .ok (.iload_n 3, 1) := by decide +kernel
theorem dX3_keepPlace_80 : decode cX3_keepPlace 80 = .ok (.aload_n 1, 1) := by decide +kernel
theorem dX3_keepPlace_81 : decode cX3_keepPlace 81 = .ok (.getfield 32, 3) := by decide +kernel
theorem dX3_keepPlace_84 : decode cX3_keepPlace 84 = .ok (.irem, 1) := by decide +kernel
theorem dX3_keepPlace_85 : decode cX3_keepPlace 85 = .ok (.ireturn, 1) := by decide +kernel
theorem dX3_showOthers_0 : decode cX3_showOthers 0 = .ok (.iconst 0, 1) := by decide +kernel
theorem dX3_showOthers_1 : decode cX3_showOthers 1 = .ok (.istore 4, 2) := by decide +kernel
theorem dX3_showOthers_3 : decode cX3_showOthers 3 = .ok (.iconst 0, 1) := by decide +kernel
theorem dX3_showOthers_4 : decode cX3_showOthers 4 = .ok (.istore 5, 2) := by decide +kernel
theorem dX3_showOthers_6 : decode cX3_showOthers 6 = .ok (.iconst 0, 1) := by decide +kernel
theorem dX3_showOthers_7 : decode cX3_showOthers 7 = .ok (.istore 6, 2) := by decide +kernel
theorem dX3_showOthers_9 : decode cX3_showOthers 9 = .ok (.iload 6, 2) := by decide +kernel
theorem dX3_showOthers_11 : decode cX3_showOthers 11 = .ok (.aload_n 1, 1) := by decide +kernel
theorem dX3_showOthers_12 : decode cX3_showOthers 12 = .ok (.getfield 32, 3) := by decide +kernel
theorem dX3_showOthers_15 : decode cX3_showOthers 15 = .ok (.if_icmp .ge 47, 3) := by decide +kernel
theorem dX3_showOthers_18 : decode cX3_showOthers 18 = .ok (.iload_n 2, 1) := by decide +kernel
theorem dX3_showOthers_19 : decode cX3_showOthers 19 = .ok (.iload 6, 2) := by decide +kernel
theorem dX3_showOthers_21 : decode cX3_showOthers 21 = .ok (.invokestatic 58, 3) := by decide +kernel
theorem dX3_showOthers_24 : decode cX3_showOthers 24 = .ok (.istore 7, 2) := by decide +kernel
theorem dX3_showOthers_26 : decode cX3_showOthers 26 = .ok (.iload_n 3, 1) := by decide +kernel
theorem dX3_showOthers_27 : decode cX3_showOthers 27 = .ok (.iload 7, 2) := by decide +kernel
theorem dX3_showOthers_29 : decode cX3_showOthers 29 = .ok (.ishr, 1) := by decide +kernel
theorem dX3_showOthers_30 : decode cX3_showOthers 30 = .ok (.iconst 1, 1) := by decide +kernel
theorem dX3_showOthers_31 : decode cX3_showOthers 31 = .ok (.iand, 1) := by decide +kernel
theorem dX3_showOthers_32 : decode cX3_showOthers 32 = .ok (.ifCond .ne 24, 3) := by decide +kernel
theorem dX3_showOthers_35 : decode cX3_showOthers 35 = .ok (.aload_n 0, 1) := by decide +kernel
theorem dX3_showOthers_36 : decode cX3_showOthers 36 = .ok (.getfield 15, 3) := by decide +kernel
theorem dX3_showOthers_39 : decode cX3_showOthers 39 = .ok (.iload 5, 2) := by decide +kernel
theorem dX3_showOthers_41 : decode cX3_showOthers 41 = .ok (.iload 7, 2) := by decide +kernel
theorem dX3_showOthers_43 : decode cX3_showOthers 43 = .ok (.iastore, 1) := by decide +kernel
theorem dX3_showOthers_44 : decode cX3_showOthers 44 = .ok (.iinc 5 1, 3) := by decide +kernel
theorem dX3_showOthers_47 : decode cX3_showOthers 47 = .ok (.iload 4, 2) := by decide +kernel
theorem dX3_showOthers_49 : decode cX3_showOthers 49 = .ok (.iconst 1, 1) := by decide +kernel
theorem dX3_showOthers_50 : decode cX3_showOthers 50 = .ok (.iload 7, 2) := by decide +kernel
theorem dX3_showOthers_52 : decode cX3_showOthers 52 = .ok (.ishl, 1) := by decide +kernel
theorem dX3_showOthers_53 : decode cX3_showOthers 53 = .ok (.ior, 1) := by decide +kernel
theorem dX3_showOthers_54 : decode cX3_showOthers 54 = .ok (.istore 4, 2) := by decide +kernel
theorem dX3_showOthers_56 : decode cX3_showOthers 56 = .ok (.iinc 6 1, 3) := by decide +kernel
theorem dX3_showOthers_59 : decode cX3_showOthers 59 = .ok (.goto (-50), 3) := by decide +kernel
theorem dX3_showOthers_62 : decode cX3_showOthers 62 = .ok (.iload 4, 2) := by decide +kernel
theorem dX3_showOthers_64 : decode cX3_showOthers 64 = .ok (.ireturn, 1) := by decide +kernel
set_option maxHeartbeats 4000000 in
set_option maxRecDepth 100000 in
theorem sX0_handNumber {l : Launch} {D : va_G} {cA : Nat → ClassId} {base : Nat} {sA : Nat → Nat} {r0 : Nat} {r1 : Nat} {h hE : Zh} {rE : Int32} (hf : fX0_handNumber r0 r1 h = some (rE, hE)) : zC l yX0_handNumber cX0_handNumber 5 (some .int) 2 46 D cA base sA [.ref (base + r0), .ref (base + r1)] h (some (.int rE)) hE := by
  refine g_entry RX0 (by decide) rfl (Nat.le_of_ble_eq_true rfl) ?_
  intro p e s m args below meth c X hr
  unfold fX0_handNumber at hf
  have hf := zlet_n (x := h) rfl hf
  show zG p l e { frames := 2, cells := 0, slots := 0, locals := 46 } s m args below meth c (MQ below (zQ D cA base h hE (some (.int rE))) args s 0 0 (zA base)) 5 D cA base h 0 [(0, .ref (base + r0)), (1, .ref (base + r1))] [] h
  refine g_aload_n X 0 dX0_handNumber_0 rfl ?_
  obtain ⟨hk1, hf⟩ := zite hf
  refine g_get X zf0 hk1 6 (by decide) w_f_RX0_36 rfl rfl dX0_handNumber_1 ?_
  refine g_if_eq X 17 dX0_handNumber_4 (by decide) (fun hq => ?_) (fun hq => ?_)
  · have hf := zpos hq hf
    refine g_aload_n X 1 dX0_handNumber_17 rfl ?_
    refine g_aload_n X 0 dX0_handNumber_18 rfl ?_
    refine g_get X zf0 hk1 3 (by decide) w_f_RX0_27 rfl rfl dX0_handNumber_19 ?_
    obtain ⟨h2, hch2, hf⟩ := zbd hf
    refine g_callS X 2 (sX0_sort hch2) ysX0_sort w_ml_RX0_71 w_static_X0_sort w_ini_RX0 w_code_X0_sort (by decide) rfl (st := []) rfl rfl (Nat.le_of_ble_eq_true rfl) dX0_handNumber_22 ?_
    refine g_lconst X (v := 0) dX0_handNumber_25 (by decide) ?_
    refine g_lstore_n X [(2, .long ((0 : Int64))), (0, .ref (base + r0)), (1, .ref (base + r1))] dX0_handNumber_26 (by decide) rfl ?_
    refine g_iconst X (v := 0) dX0_handNumber_27 (by decide) ?_
    refine g_istore X [(4, .int ((0 : Int32))), (2, .long ((0 : Int64))), (0, .ref (base + r0)), (1, .ref (base + r1))] dX0_handNumber_28 (by decide) rfl ?_
    refine g_sub [2, 3, 1, 0] rfl ?_
    obtain ⟨qq, hlp, hf⟩ := zbd hf
    refine lp_snd (body := (fun q : Int64 × Int32 × Zh => bX0_handNumber_30 h r0 r1 q.1 q.2.1 q.2.2)) (P := (fun q : Int64 × Int32 × Zh => zG p l e { frames := 2, cells := 0, slots := 0, locals := 46 } s m args below meth c (MQ below (zQ D cA base h hE (some (.int rE))) args s 0 0 (zA base)) 5 D cA base h 30 [(0, .ref (base + r0)), (1, .ref (base + r1)), (2, .long q.1), (4, .int q.2.1)] [] q.2.2)) (E := (fun (en : Nat) (q : Int64 × Int32 × Zh) => zG p l e { frames := 2, cells := 0, slots := 0, locals := 46 } s m args below meth c (MQ below (zQ D cA base h hE (some (.int rE))) args s 0 0 (zA base)) 5 D cA base h 69 [(0, .ref (base + r0)), (2, .long q.1)] [] q.2.2)) ?_ zB ((0 : Int64), ((0 : Int32), h2)) qq.1 qq.2 hlp ?_
    · intro q e_30 q_30 hf hc0 hc1
      obtain ⟨j2_30, x4_30, h_30⟩ := q
      have hf : bX0_handNumber_30 h r0 r1 j2_30 x4_30 h_30 = some (e_30, q_30) := hf
      unfold bX0_handNumber_30 at hf
      show zG p l e { frames := 2, cells := 0, slots := 0, locals := 46 } s m args below meth c (MQ below (zQ D cA base h hE (some (.int rE))) args s 0 0 (zA base)) 5 D cA base h 30 [(0, .ref (base + r0)), (1, .ref (base + r1)), (2, .long j2_30), (4, .int x4_30)] [] h_30
      refine g_iload X 3 dX0_handNumber_30 rfl ?_
      refine g_aload_n X 0 dX0_handNumber_32 rfl ?_
      refine g_get X zf0 hk1 3 (by decide) w_f_RX0_27 rfl rfl dX0_handNumber_33 ?_
      refine g_icmp_ge X 69 dX0_handNumber_36 (by decide) (fun hq => ?_) (fun hq => ?_)
      · have hf := zpos hq hf
        cases hf
        have hc1 := hc1 (by decide)
        exact g_sub [0, 2] rfl hc1
      · have hf := zneg hq hf
        refine g_lload_n X 2 dX0_handNumber_39 rfl ?_
        refine g_aload_n X 0 dX0_handNumber_40 rfl ?_
        refine g_get X zf0 hk1 0 (by decide) w_f_RX0_18 rfl rfl dX0_handNumber_41 ?_
        refine g_iconst X (v := 1) dX0_handNumber_44 (by decide) ?_
        refine g_isub X dX0_handNumber_45 ?_
        refine g_aload_n X 1 dX0_handNumber_46 rfl ?_
        refine g_iload X 3 dX0_handNumber_47 rfl ?_
        obtain ⟨hk3, hf⟩ := zite hf
        obtain ⟨hi4, hf⟩ := zite hf
        refine g_iald X hk3 hi4 dX0_handNumber_49 ?_
        refine g_isub X dX0_handNumber_50 ?_
        refine g_aload_n X 0 dX0_handNumber_51 rfl ?_
        refine g_get X zf0 hk1 3 (by decide) w_f_RX0_27 rfl rfl dX0_handNumber_52 ?_
        refine g_iload X 3 dX0_handNumber_55 rfl ?_
        refine g_isub X dX0_handNumber_57 ?_
        obtain ⟨v6, h5, hch5, hf⟩ := zc2_e hf
        refine g_callS X 2 (sX0_choose hch5) ysX0_choose w_ml_RX0_60 w_static_X0_choose w_ini_RX0 w_code_X0_choose (by decide) rfl (st := [.long j2_30]) rfl rfl (Nat.le_of_ble_eq_true rfl) dX0_handNumber_58 ?_
        refine g_ladd X dX0_handNumber_61 ?_
        refine g_topl (fun y7 ey7 => ?_)
        have hf := zlet_n ey7 hf
        refine g_lstore_n X [(2, .long y7), (0, .ref (base + r0)), (1, .ref (base + r1)), (4, .int x4_30)] dX0_handNumber_62 (by decide) rfl ?_
        obtain ⟨y8, ey8⟩ : ∃ y : Int32, y = x4_30 + (1 : Int32) := ⟨_, rfl⟩
        have hf := zlet_n ey8 hf
        refine g_iinc X (j := 3) [(4, .int y8), (2, .long y7), (0, .ref (base + r0)), (1, .ref (base + r1))] dX0_handNumber_63 rfl (by rw [ey8]; rfl) (by decide) rfl ?_
        refine g_goto X 30 dX0_handNumber_66 (by decide) ?_
        cases hf
        exact g_sub [2, 3, 1, 0] rfl (hc0 rfl)
    · obtain ⟨ee, j2_k30, x4_k30, h_k30⟩ := qq
      have hf : kX0_handNumber_30 h r0 ee j2_k30 x4_k30 h_k30 = some (rE, hE) := hf
      unfold kX0_handNumber_30 at hf
      show zG p l e { frames := 2, cells := 0, slots := 0, locals := 46 } s m args below meth c (MQ below (zQ D cA base h hE (some (.int rE))) args s 0 0 (zA base)) 5 D cA base h 69 [(0, .ref (base + r0)), (2, .long j2_k30)] [] h_k30
      refine g_aload_n X 0 dX0_handNumber_69 rfl ?_
      refine g_get X zf0 hk1 0 (by decide) w_f_RX0_18 rfl rfl dX0_handNumber_70 ?_
      refine g_aload_n X 0 dX0_handNumber_73 rfl ?_
      refine g_get X zf0 hk1 3 (by decide) w_f_RX0_27 rfl rfl dX0_handNumber_74 ?_
      obtain ⟨v10, h9, hch9, hf⟩ := zc2_e hf
      refine g_callS X 2 (sX0_choose hch9) ysX0_choose w_ml_RX0_60 w_static_X0_choose w_ini_RX0 w_code_X0_choose (by decide) rfl (st := []) rfl rfl (Nat.le_of_ble_eq_true rfl) dX0_handNumber_77 ?_
      refine g_lconst X (v := 1) dX0_handNumber_80 (by decide) ?_
      refine g_lsub X dX0_handNumber_81 ?_
      refine g_lload_n X 1 dX0_handNumber_82 rfl ?_
      refine g_lsub X dX0_handNumber_83 ?_
      refine g_l2i X dX0_handNumber_84 ?_
      obtain ⟨rfl, rfl⟩ := zsm hf
      exact g_iret X hr dX0_handNumber_85
  · have hf := zneg hq hf
    refine g_aload_n X 0 dX0_handNumber_7 rfl ?_
    refine g_aload_n X 1 dX0_handNumber_8 rfl ?_
    refine g_aload_n X 0 dX0_handNumber_9 rfl ?_
    refine g_get X zf0 hk1 3 (by decide) w_f_RX0_27 rfl rfl dX0_handNumber_10 ?_
    obtain ⟨v12, h11, hch11, hf⟩ := zc2_e hf
    refine g_callV X 2 (sX0_rowNumber hch11) zf0 hk1 ydX0_rowNumber w_ml_RX0_67 w_instanceMethod_X0_rowNumber w_sel_X0_rowNumber w_ini_RX0 w_code_X0_rowNumber (by decide) rfl (st := []) rfl rfl (Nat.le_of_ble_eq_true rfl) dX0_handNumber_13 ?_
    obtain ⟨rfl, rfl⟩ := zsm hf
    exact g_iret X hr dX0_handNumber_16

set_option maxHeartbeats 4000000 in
set_option maxRecDepth 100000 in
theorem sX0_lower {l : Launch} {D : va_G} {cA : Nat → ClassId} {base : Nat} {sA : Nat → Nat} {x0 : Int32} {x1 : Int32} {h hE : Zh} {rE : Int32} (hf : fX0_lower x0 x1 h = some (rE, hE)) : zC l yX0_lower cX0_lower 2 (some .int) 1 20 D cA base sA [.int x0, .int x1] h (some (.int rE)) hE := by
  refine g_entry RX0 (by decide) rfl (Nat.le_of_ble_eq_true rfl) ?_
  intro p e s m args below meth c X hr
  unfold fX0_lower at hf
  have hf := zlet_n (x := h) rfl hf
  show zG p l e { frames := 1, cells := 0, slots := 0, locals := 20 } s m args below meth c (MQ below (zQ D cA base h hE (some (.int rE))) args s 0 0 (zA base)) 2 D cA base h 0 [(0, .int x0), (1, .int x1)] [] h
  refine g_iload_n X 0 dX0_lower_0 rfl ?_
  refine g_iconst X (v := 1) dX0_lower_1 (by decide) ?_
  refine g_iload_n X 1 dX0_lower_2 rfl ?_
  refine g_ishl X dX0_lower_3 ?_
  refine g_iconst X (v := 1) dX0_lower_4 (by decide) ?_
  refine g_isub X dX0_lower_5 ?_
  refine g_iand X dX0_lower_6 ?_
  obtain ⟨v2, h1, hch1, hf⟩ := zc2_e hf
  refine g_callS X 1 (sJ6_bitCount_0f7a4 hch1) ysJ6_bitCount_0f7a4 w_ml_RX0_75 w_static_J6_bitCount_0f7a4 w_ini_RJ6 w_code_J6_bitCount_0f7a4 (by decide) rfl (st := []) rfl rfl (Nat.le_of_ble_eq_true rfl) dX0_lower_7 ?_
  obtain ⟨rfl, rfl⟩ := zsm hf
  exact g_iret X hr dX0_lower_10

set_option maxHeartbeats 4000000 in
set_option maxRecDepth 100000 in
theorem sX0_unusedCard {l : Launch} {D : va_G} {cA : Nat → ClassId} {base : Nat} {sA : Nat → Nat} {r0 : Nat} {x1 : Int32} {x2 : Int32} {h hE : Zh} {rE : Int32} (hf : fX0_unusedCard r0 x1 x2 h = some (rE, hE)) : zC l yX0_unusedCard cX0_unusedCard 5 (some .int) 0 0 D cA base sA [.ref (base + r0), .int x1, .int x2] h (some (.int rE)) hE := by
  refine g_entry RX0 (by decide) rfl (Nat.le_of_ble_eq_true rfl) ?_
  intro p e s m args below meth c X hr
  unfold fX0_unusedCard at hf
  have hf := zlet_n (x := h) rfl hf
  show zG p l e { frames := 0, cells := 0, slots := 0, locals := 0 } s m args below meth c (MQ below (zQ D cA base h hE (some (.int rE))) args s 0 0 (zA base)) 5 D cA base h 0 [(0, .ref (base + r0)), (1, .int x1), (2, .int x2)] [] h
  refine g_iload_n X 2 dX0_unusedCard_0 rfl ?_
  refine g_istore_n X [(3, .int x2), (0, .ref (base + r0)), (1, .int x1), (2, .int x2)] dX0_unusedCard_1 (by decide) rfl ?_
  refine g_iconst X (v := 0) dX0_unusedCard_2 (by decide) ?_
  refine g_istore X [(4, .int ((0 : Int32))), (3, .int x2), (0, .ref (base + r0)), (1, .int x1), (2, .int x2)] dX0_unusedCard_3 (by decide) rfl ?_
  refine g_sub [2, 3, 1, 0] rfl ?_
  obtain ⟨qq, hlp, hf⟩ := zbd hf
  refine lp_snd (body := (fun q : Int32 × Int32 × Zh => bX0_unusedCard_5 h r0 x1 q.1 q.2.1 q.2.2)) (P := (fun q : Int32 × Int32 × Zh => zG p l e { frames := 0, cells := 0, slots := 0, locals := 0 } s m args below meth c (MQ below (zQ D cA base h hE (some (.int rE))) args s 0 0 (zA base)) 5 D cA base h 5 [(0, .ref (base + r0)), (1, .int x1), (3, .int q.1), (4, .int q.2.1)] [] q.2.2)) (E := (fun (en : Nat) (q : Int32 × Int32 × Zh) => if en = 1 then zG p l e { frames := 0, cells := 0, slots := 0, locals := 0 } s m args below meth c (MQ below (zQ D cA base h hE (some (.int rE))) args s 0 0 (zA base)) 5 D cA base h 27 [(4, .int q.2.1)] [] q.2.2 else zG p l e { frames := 0, cells := 0, slots := 0, locals := 0 } s m args below meth c (MQ below (zQ D cA base h hE (some (.int rE))) args s 0 0 (zA base)) 5 D cA base h 39 [] [] q.2.2)) ?_ zB (x2, ((0 : Int32), h)) qq.1 qq.2 hlp ?_
  · intro q e_5 q_5 hf hc0 hc1
    obtain ⟨x3_5, x4_5, h_5⟩ := q
    have hf : bX0_unusedCard_5 h r0 x1 x3_5 x4_5 h_5 = some (e_5, q_5) := hf
    unfold bX0_unusedCard_5 at hf
    show zG p l e { frames := 0, cells := 0, slots := 0, locals := 0 } s m args below meth c (MQ below (zQ D cA base h hE (some (.int rE))) args s 0 0 (zA base)) 5 D cA base h 5 [(0, .ref (base + r0)), (1, .int x1), (3, .int x3_5), (4, .int x4_5)] [] h_5
    refine g_iload X 3 dX0_unusedCard_5 rfl ?_
    refine g_aload_n X 0 dX0_unusedCard_7 rfl ?_
    obtain ⟨hk1, hf⟩ := zite hf
    refine g_get X zf0 hk1 0 (by decide) w_f_RX0_18 rfl rfl dX0_unusedCard_8 ?_
    refine g_icmp_ge X 39 dX0_unusedCard_11 (by decide) (fun hq => ?_) (fun hq => ?_)
    · have hf := zpos hq hf
      cases hf
      have hc1 := hc1 (by decide)
      exact g_sub [] rfl (zun_n (by decide) hc1)
    · have hf := zneg hq hf
      refine g_iload_n X 1 dX0_unusedCard_14 rfl ?_
      refine g_iload X 3 dX0_unusedCard_15 rfl ?_
      refine g_ishr X dX0_unusedCard_17 ?_
      refine g_iconst X (v := 1) dX0_unusedCard_18 (by decide) ?_
      refine g_iand X dX0_unusedCard_19 ?_
      refine g_if_ne X 33 dX0_unusedCard_20 (by decide) (fun hq => ?_) (fun hq => ?_)
      · have hf := zneg hq hf
        obtain ⟨y2, ey2⟩ : ∃ y : Int32, y = x4_5 + (1 : Int32) := ⟨_, rfl⟩
        have hf := zlet_n ey2 hf
        refine g_iinc X (j := 3) [(4, .int y2), (0, .ref (base + r0)), (1, .int x1), (3, .int x3_5)] dX0_unusedCard_33 rfl (by rw [ey2]; rfl) (by decide) rfl ?_
        refine g_goto X 5 dX0_unusedCard_36 (by decide) ?_
        cases hf
        exact g_sub [1, 2, 3, 0] rfl (hc0 rfl)
      · have hf := zpos hq hf
        refine g_iload_n X 2 dX0_unusedCard_23 rfl ?_
        refine g_if_ne X 30 dX0_unusedCard_24 (by decide) (fun hq => ?_) (fun hq => ?_)
        · have hf := zneg hq hf
          obtain ⟨y3, ey3⟩ : ∃ y : Int32, y = x3_5 + (-1 : Int32) := ⟨_, rfl⟩
          have hf := zlet_n ey3 hf
          refine g_iinc X (j := 2) [(3, .int y3), (0, .ref (base + r0)), (1, .int x1), (4, .int x4_5)] dX0_unusedCard_30 rfl (by rw [ey3]; rfl) (by decide) rfl ?_
          obtain ⟨y4, ey4⟩ : ∃ y : Int32, y = x4_5 + (1 : Int32) := ⟨_, rfl⟩
          have hf := zlet_n ey4 hf
          refine g_iinc X (j := 3) [(4, .int y4), (3, .int y3), (0, .ref (base + r0)), (1, .int x1)] dX0_unusedCard_33 rfl (by rw [ey4]; rfl) (by decide) rfl ?_
          refine g_goto X 5 dX0_unusedCard_36 (by decide) ?_
          cases hf
          exact g_sub [2, 3, 1, 0] rfl (hc0 rfl)
        · have hf := zpos hq hf
          cases hf
          have hc1 := hc1 (by decide)
          exact g_sub [3] rfl (zun_p rfl hc1)
  · obtain ⟨ee, x3_k5, x4_k5, h_k5⟩ := qq
    have hf : kX0_unusedCard_5 h ee x3_k5 x4_k5 h_k5 = some (rE, hE) := hf
    unfold kX0_unusedCard_5 at hf
    by_cases hee0 : ee = 1
    · have hf := zpos hee0 hf
      refine zifp hee0 ?_
      show zG p l e { frames := 0, cells := 0, slots := 0, locals := 0 } s m args below meth c (MQ below (zQ D cA base h hE (some (.int rE))) args s 0 0 (zA base)) 5 D cA base h 27 [(4, .int x4_k5)] [] h_k5
      refine g_iload X 0 dX0_unusedCard_27 rfl ?_
      obtain ⟨rfl, rfl⟩ := zsm hf
      exact g_iret X hr dX0_unusedCard_29
    have hf := zneg hee0 hf
    refine zifn hee0 ?_
    show zG p l e { frames := 0, cells := 0, slots := 0, locals := 0 } s m args below meth c (MQ below (zQ D cA base h hE (some (.int rE))) args s 0 0 (zA base)) 5 D cA base h 39 [] [] h_k5
    refine g_iconst X (v := 0) dX0_unusedCard_39 (by decide) ?_
    obtain ⟨rfl, rfl⟩ := zsm hf
    exact g_iret X hr dX0_unusedCard_40

set_option maxHeartbeats 4000000 in
set_option maxRecDepth 100000 in
theorem sX0_unpackRow {l : Launch} {D : va_G} {cA : Nat → ClassId} {base : Nat} {sA : Nat → Nat} {r0 : Nat} {x1 : Int32} {r2 : Nat} {h hE : Zh} (hf : fX0_unpackRow r0 x1 r2 h = some hE) : zC l yX0_unpackRow cX0_unpackRow 6 none 1 24 D cA base sA [.ref (base + r0), .int x1, .ref (base + r2)] h none hE := by
  refine g_entry RX0 (by decide) rfl (Nat.le_of_ble_eq_true rfl) ?_
  intro p e s m args below meth c X hr
  unfold fX0_unpackRow at hf
  have hf := zlet_n (x := h) rfl hf
  show zG p l e { frames := 1, cells := 0, slots := 0, locals := 24 } s m args below meth c (MQ below (zQ D cA base h hE none) args s 0 0 (zA base)) 6 D cA base h 0 [(0, .ref (base + r0)), (1, .int x1), (2, .ref (base + r2))] [] h
  refine g_iload_n X 1 dX0_unpackRow_0 rfl ?_
  refine g_aload_n X 0 dX0_unpackRow_1 rfl ?_
  obtain ⟨hk1, hf⟩ := zite hf
  refine g_get X zf0 hk1 12 (by decide) w_f_RX0_15 rfl rfl dX0_unpackRow_2 ?_
  obtain ⟨hn2, hf⟩ := zite hf
  refine g_idiv X hn2 dX0_unpackRow_5 ?_
  refine g_topi (fun y3 ey3 => ?_)
  have hf := zlet_n ey3 hf
  refine g_istore_n X [(3, .int y3), (0, .ref (base + r0)), (1, .int x1), (2, .ref (base + r2))] dX0_unpackRow_6 (by decide) rfl ?_
  refine g_aload_n X 1 dX0_unpackRow_7 rfl ?_
  refine g_get X zf0 hk1 5 (by decide) w_f_RX0_33 rfl rfl dX0_unpackRow_8 ?_
  refine g_iconst X (v := 1) dX0_unpackRow_11 (by decide) ?_
  refine g_isub X dX0_unpackRow_12 ?_
  refine g_topi (fun y4 ey4 => ?_)
  have hf := zlet_n ey4 hf
  refine g_istore X [(4, .int y4), (3, .int y3), (0, .ref (base + r0)), (1, .int x1), (2, .ref (base + r2))] dX0_unpackRow_13 (by decide) rfl ?_
  refine g_sub [2, 4, 1, 0] rfl ?_
  obtain ⟨qq, hlp, hf⟩ := zbd hf
  refine lp_snd (body := (fun q : Int32 × Int32 × Zh => bX0_unpackRow_15 h r0 r2 q.1 q.2.1 q.2.2)) (P := (fun q : Int32 × Int32 × Zh => zG p l e { frames := 1, cells := 0, slots := 0, locals := 24 } s m args below meth c (MQ below (zQ D cA base h hE none) args s 0 0 (zA base)) 6 D cA base h 15 [(0, .ref (base + r0)), (2, .ref (base + r2)), (3, .int q.1), (4, .int q.2.1)] [] q.2.2)) (E := (fun (en : Nat) (q : Int32 × Int32 × Zh) => zG p l e { frames := 1, cells := 0, slots := 0, locals := 24 } s m args below meth c (MQ below (zQ D cA base h hE none) args s 0 0 (zA base)) 6 D cA base h 49 [(0, .ref (base + r0)), (2, .ref (base + r2))] [] q.2.2)) ?_ zB (y3, (y4, h)) qq.1 qq.2 hlp ?_
  · intro q e_15 q_15 hf hc0 hc1
    obtain ⟨x3_15, x4_15, h_15⟩ := q
    have hf : bX0_unpackRow_15 h r0 r2 x3_15 x4_15 h_15 = some (e_15, q_15) := hf
    unfold bX0_unpackRow_15 at hf
    show zG p l e { frames := 1, cells := 0, slots := 0, locals := 24 } s m args below meth c (MQ below (zQ D cA base h hE none) args s 0 0 (zA base)) 6 D cA base h 15 [(0, .ref (base + r0)), (2, .ref (base + r2)), (3, .int x3_15), (4, .int x4_15)] [] h_15
    refine g_iload X 3 dX0_unpackRow_15 rfl ?_
    refine g_if_lt X 49 dX0_unpackRow_17 (by decide) (fun hq => ?_) (fun hq => ?_)
    · have hf := zpos hq hf
      cases hf
      have hc1 := hc1 (by decide)
      exact g_sub [0, 1] rfl hc1
    · have hf := zneg hq hf
      refine g_aload_n X 1 dX0_unpackRow_20 rfl ?_
      refine g_iload X 3 dX0_unpackRow_21 rfl ?_
      refine g_iload_n X 2 dX0_unpackRow_23 rfl ?_
      refine g_aload_n X 0 dX0_unpackRow_24 rfl ?_
      refine g_get X zf0 hk1 0 (by decide) w_f_RX0_18 rfl rfl dX0_unpackRow_25 ?_
      refine g_iload X 3 dX0_unpackRow_28 rfl ?_
      refine g_isub X dX0_unpackRow_30 ?_
      obtain ⟨hn5, hf⟩ := zite hf
      refine g_irem X hn5 dX0_unpackRow_31 ?_
      obtain ⟨hk6, hf⟩ := zite hf
      obtain ⟨hi7, hf⟩ := zite hf
      refine g_iast X hk6 hi7 dX0_unpackRow_32 ?_
      refine g_hp (fun h8 eh8 => ?_)
      have hf := zlet_n eh8 hf
      refine g_iload_n X 2 dX0_unpackRow_33 rfl ?_
      refine g_aload_n X 0 dX0_unpackRow_34 rfl ?_
      refine g_get X zf0 hk1 0 (by decide) w_f_RX0_18 rfl rfl dX0_unpackRow_35 ?_
      refine g_iload X 3 dX0_unpackRow_38 rfl ?_
      refine g_isub X dX0_unpackRow_40 ?_
      obtain ⟨hn9, hf⟩ := zite hf
      refine g_idiv X hn9 dX0_unpackRow_41 ?_
      refine g_topi (fun y10 ey10 => ?_)
      have hf := zlet_n ey10 hf
      refine g_istore_n X [(3, .int y10), (0, .ref (base + r0)), (2, .ref (base + r2)), (4, .int x4_15)] dX0_unpackRow_42 (by decide) rfl ?_
      obtain ⟨y11, ey11⟩ : ∃ y : Int32, y = x4_15 + (-1 : Int32) := ⟨_, rfl⟩
      have hf := zlet_n ey11 hf
      refine g_iinc X (j := 3) [(4, .int y11), (3, .int y10), (0, .ref (base + r0)), (2, .ref (base + r2))] dX0_unpackRow_43 rfl (by rw [ey11]; rfl) (by decide) rfl ?_
      refine g_goto X 15 dX0_unpackRow_46 (by decide) ?_
      cases hf
      exact g_sub [2, 3, 1, 0] rfl (hc0 rfl)
  · obtain ⟨ee, x3_k15, x4_k15, h_k15⟩ := qq
    have hf : kX0_unpackRow_15 h r0 r2 ee x3_k15 x4_k15 h_k15 = some hE := hf
    unfold kX0_unpackRow_15 at hf
    show zG p l e { frames := 1, cells := 0, slots := 0, locals := 24 } s m args below meth c (MQ below (zQ D cA base h hE none) args s 0 0 (zA base)) 6 D cA base h 49 [(0, .ref (base + r0)), (2, .ref (base + r2))] [] h_k15
    refine g_iconst X (v := 0) dX0_unpackRow_49 (by decide) ?_
    refine g_istore X [(4, .int ((0 : Int32))), (0, .ref (base + r0)), (2, .ref (base + r2))] dX0_unpackRow_50 (by decide) rfl ?_
    refine g_iconst X (v := 0) dX0_unpackRow_52 (by decide) ?_
    refine g_istore X [(5, .int ((0 : Int32))), (4, .int ((0 : Int32))), (0, .ref (base + r0)), (2, .ref (base + r2))] dX0_unpackRow_53 (by decide) rfl ?_
    refine g_sub [2, 3, 1, 0] rfl ?_
    obtain ⟨qq, hlp, hf⟩ := zbd hf
    refine lp_snd (body := (fun q : Int32 × Int32 × Zh => bX0_unpackRow_55 h r0 r2 q.1 q.2.1 q.2.2)) (P := (fun q : Int32 × Int32 × Zh => zG p l e { frames := 1, cells := 0, slots := 0, locals := 24 } s m args below meth c (MQ below (zQ D cA base h hE none) args s 0 0 (zA base)) 6 D cA base h 55 [(0, .ref (base + r0)), (2, .ref (base + r2)), (4, .int q.1), (5, .int q.2.1)] [] q.2.2)) (E := (fun (en : Nat) (q : Int32 × Int32 × Zh) => zG p l e { frames := 1, cells := 0, slots := 0, locals := 24 } s m args below meth c (MQ below (zQ D cA base h hE none) args s 0 0 (zA base)) 6 D cA base h 95 [] [] q.2.2)) ?_ zB ((0 : Int32), ((0 : Int32), h_k15)) qq.1 qq.2 hlp ?_
    · intro q e_55 q_55 hf hc0 hc1
      obtain ⟨x4_55, x5_55, h_55⟩ := q
      have hf : bX0_unpackRow_55 h r0 r2 x4_55 x5_55 h_55 = some (e_55, q_55) := hf
      unfold bX0_unpackRow_55 at hf
      show zG p l e { frames := 1, cells := 0, slots := 0, locals := 24 } s m args below meth c (MQ below (zQ D cA base h hE none) args s 0 0 (zA base)) 6 D cA base h 55 [(0, .ref (base + r0)), (2, .ref (base + r2)), (4, .int x4_55), (5, .int x5_55)] [] h_55
      refine g_iload X 3 dX0_unpackRow_55 rfl ?_
      refine g_aload_n X 0 dX0_unpackRow_57 rfl ?_
      refine g_get X zf0 hk1 5 (by decide) w_f_RX0_33 rfl rfl dX0_unpackRow_58 ?_
      refine g_icmp_ge X 95 dX0_unpackRow_61 (by decide) (fun hq => ?_) (fun hq => ?_)
      · have hf := zpos hq hf
        cases hf
        have hc1 := hc1 (by decide)
        exact g_sub [] rfl hc1
      · have hf := zneg hq hf
        refine g_aload_n X 1 dX0_unpackRow_64 rfl ?_
        refine g_iload X 3 dX0_unpackRow_65 rfl ?_
        refine g_aload_n X 0 dX0_unpackRow_67 rfl ?_
        refine g_iload X 2 dX0_unpackRow_68 rfl ?_
        refine g_aload_n X 1 dX0_unpackRow_70 rfl ?_
        refine g_iload X 3 dX0_unpackRow_71 rfl ?_
        obtain ⟨hk12, hf⟩ := zite hf
        obtain ⟨hi13, hf⟩ := zite hf
        refine g_iald X hk12 hi13 dX0_unpackRow_73 ?_
        obtain ⟨v15, h14, hch14, hf⟩ := zc2_e hf
        refine g_callV X 2 (sX0_unusedCard hch14) zf0 hk1 ydX0_unusedCard w_ml_RX0_81 w_instanceMethod_X0_unusedCard w_sel_X0_unusedCard w_ini_RX0 w_code_X0_unusedCard (by decide) rfl (st := [.int x5_55, .ref (base + r2)]) rfl rfl (Nat.le_of_ble_eq_true rfl) dX0_unpackRow_74 ?_
        obtain ⟨hi16, hf⟩ := zite hf
        refine g_iast X hk12 hi16 dX0_unpackRow_77 ?_
        refine g_hp (fun h17 eh17 => ?_)
        have hf := zlet_n eh17 hf
        refine g_iload X 2 dX0_unpackRow_78 rfl ?_
        refine g_iconst X (v := 1) dX0_unpackRow_80 (by decide) ?_
        refine g_aload_n X 1 dX0_unpackRow_81 rfl ?_
        refine g_iload X 3 dX0_unpackRow_82 rfl ?_
        obtain ⟨hi18, hf⟩ := zite hf
        refine g_iald X hk12 hi18 dX0_unpackRow_84 ?_
        refine g_ishl X dX0_unpackRow_85 ?_
        refine g_ior X dX0_unpackRow_86 ?_
        refine g_topi (fun y19 ey19 => ?_)
        have hf := zlet_n ey19 hf
        refine g_istore X [(4, .int y19), (0, .ref (base + r0)), (2, .ref (base + r2)), (5, .int x5_55)] dX0_unpackRow_87 (by decide) rfl ?_
        obtain ⟨y20, ey20⟩ : ∃ y : Int32, y = x5_55 + (1 : Int32) := ⟨_, rfl⟩
        have hf := zlet_n ey20 hf
        refine g_iinc X (j := 3) [(5, .int y20), (4, .int y19), (0, .ref (base + r0)), (2, .ref (base + r2))] dX0_unpackRow_89 rfl (by rw [ey20]; rfl) (by decide) rfl ?_
        refine g_goto X 55 dX0_unpackRow_92 (by decide) ?_
        cases hf
        exact g_sub [2, 3, 1, 0] rfl (hc0 rfl)
    · obtain ⟨ee, x4_k55, x5_k55, h_k55⟩ := qq
      have hf : kX0_unpackRow_55 h ee x4_k55 x5_k55 h_k55 = some hE := hf
      unfold kX0_unpackRow_55 at hf
      show zG p l e { frames := 1, cells := 0, slots := 0, locals := 24 } s m args below meth c (MQ below (zQ D cA base h hE none) args s 0 0 (zA base)) 6 D cA base h 95 [] [] h_k55
      cases hf
      exact g_vret X hr dX0_unpackRow_95

set_option maxHeartbeats 4000000 in
set_option maxRecDepth 100000 in
theorem sX0_placeIn {l : Launch} {D : va_G} {cA : Nat → ClassId} {base : Nat} {sA : Nat → Nat} {r0 : Nat} {x1 : Int32} {x2 : Int32} {x3 : Int32} {h hE : Zh} {rE : Int32} (hf : fX0_placeIn r0 x1 x2 x3 h = some (rE, hE)) : zC l yX0_placeIn cX0_placeIn 5 (some .int) 1 21 D cA base sA [.ref (base + r0), .int x1, .int x2, .int x3] h (some (.int rE)) hE := by
  refine g_entry RX0 (by decide) rfl (Nat.le_of_ble_eq_true rfl) ?_
  intro p e s m args below meth c X hr
  unfold fX0_placeIn at hf
  have hf := zlet_n (x := h) rfl hf
  show zG p l e { frames := 1, cells := 0, slots := 0, locals := 21 } s m args below meth c (MQ below (zQ D cA base h hE (some (.int rE))) args s 0 0 (zA base)) 5 D cA base h 0 [(0, .ref (base + r0)), (1, .int x1), (2, .int x2), (3, .int x3)] [] h
  refine g_iload_n X 3 dX0_placeIn_0 rfl ?_
  refine g_istore X [(4, .int x3), (0, .ref (base + r0)), (1, .int x1), (2, .int x2), (3, .int x3)] dX0_placeIn_1 (by decide) rfl ?_
  refine g_sub [1, 2, 3, 0] rfl ?_
  obtain ⟨qq, hlp, hf⟩ := zbd hf
  refine lp_snd (body := (fun q : Int32 × Zh => bX0_placeIn_3 h r0 x1 x2 q.1 q.2)) (P := (fun q : Int32 × Zh => zG p l e { frames := 1, cells := 0, slots := 0, locals := 21 } s m args below meth c (MQ below (zQ D cA base h hE (some (.int rE))) args s 0 0 (zA base)) 5 D cA base h 3 [(0, .ref (base + r0)), (1, .int x1), (2, .int x2), (4, .int q.1)] [] q.2)) (E := (fun (en : Nat) (q : Int32 × Zh) => if en = 1 then zG p l e { frames := 1, cells := 0, slots := 0, locals := 21 } s m args below meth c (MQ below (zQ D cA base h hE (some (.int rE))) args s 0 0 (zA base)) 5 D cA base h 22 [(4, .int q.1)] [] q.2 else zG p l e { frames := 1, cells := 0, slots := 0, locals := 21 } s m args below meth c (MQ below (zQ D cA base h hE (some (.int rE))) args s 0 0 (zA base)) 5 D cA base h 31 [] [] q.2)) ?_ zB (x3, h) qq.1 qq.2 hlp ?_
  · intro q e_3 q_3 hf hc0 hc1
    obtain ⟨x4_3, h_3⟩ := q
    have hf : bX0_placeIn_3 h r0 x1 x2 x4_3 h_3 = some (e_3, q_3) := hf
    unfold bX0_placeIn_3 at hf
    show zG p l e { frames := 1, cells := 0, slots := 0, locals := 21 } s m args below meth c (MQ below (zQ D cA base h hE (some (.int rE))) args s 0 0 (zA base)) 5 D cA base h 3 [(0, .ref (base + r0)), (1, .int x1), (2, .int x2), (4, .int x4_3)] [] h_3
    refine g_iload X 3 dX0_placeIn_3 rfl ?_
    refine g_aload_n X 0 dX0_placeIn_5 rfl ?_
    obtain ⟨hk1, hf⟩ := zite hf
    refine g_get X zf0 hk1 3 (by decide) w_f_RX0_27 rfl rfl dX0_placeIn_6 ?_
    refine g_icmp_ge X 31 dX0_placeIn_9 (by decide) (fun hq => ?_) (fun hq => ?_)
    · have hf := zpos hq hf
      cases hf
      have hc1 := hc1 (by decide)
      exact g_sub [] rfl (zun_n (by decide) hc1)
    · have hf := zneg hq hf
      refine g_iload_n X 1 dX0_placeIn_12 rfl ?_
      refine g_iload X 3 dX0_placeIn_13 rfl ?_
      obtain ⟨v3, h2, hch2, hf⟩ := zc2_e hf
      refine g_callS X 2 (sX0_cardAt hch2) ysX0_cardAt w_ml_RX0_89 w_static_X0_cardAt w_ini_RX0 w_code_X0_cardAt (by decide) rfl (st := []) rfl rfl (Nat.le_of_ble_eq_true rfl) dX0_placeIn_15 ?_
      refine g_iload_n X 2 dX0_placeIn_18 rfl ?_
      refine g_icmp_ne X 25 dX0_placeIn_19 (by decide) (fun hq => ?_) (fun hq => ?_)
      · have hf := zneg hq hf
        obtain ⟨y4, ey4⟩ : ∃ y : Int32, y = x4_3 + (1 : Int32) := ⟨_, rfl⟩
        have hf := zlet_n ey4 hf
        refine g_iinc X (j := 3) [(4, .int y4), (0, .ref (base + r0)), (1, .int x1), (2, .int x2)] dX0_placeIn_25 rfl (by rw [ey4]; rfl) (by decide) rfl ?_
        refine g_goto X 3 dX0_placeIn_28 (by decide) ?_
        cases hf
        exact g_sub [1, 2, 3, 0] rfl (hc0 rfl)
      · have hf := zpos hq hf
        cases hf
        have hc1 := hc1 (by decide)
        exact g_sub [3] rfl (zun_p rfl hc1)
  · obtain ⟨ee, x4_k3, h_k3⟩ := qq
    have hf : kX0_placeIn_3 h ee x4_k3 h_k3 = some (rE, hE) := hf
    unfold kX0_placeIn_3 at hf
    by_cases hee0 : ee = 1
    · have hf := zpos hee0 hf
      refine zifp hee0 ?_
      show zG p l e { frames := 1, cells := 0, slots := 0, locals := 21 } s m args below meth c (MQ below (zQ D cA base h hE (some (.int rE))) args s 0 0 (zA base)) 5 D cA base h 22 [(4, .int x4_k3)] [] h_k3
      refine g_iload X 0 dX0_placeIn_22 rfl ?_
      obtain ⟨rfl, rfl⟩ := zsm hf
      exact g_iret X hr dX0_placeIn_24
    have hf := zneg hee0 hf
    refine zifn hee0 ?_
    show zG p l e { frames := 1, cells := 0, slots := 0, locals := 21 } s m args below meth c (MQ below (zQ D cA base h hE (some (.int rE))) args s 0 0 (zA base)) 5 D cA base h 31 [] [] h_k3
    refine g_iconst X (v := -1) dX0_placeIn_31 (by decide) ?_
    obtain ⟨rfl, rfl⟩ := zsm hf
    exact g_iret X hr dX0_placeIn_32

set_option maxHeartbeats 4000000 in
set_option maxRecDepth 100000 in
theorem sX0_isShownOf {l : Launch} {D : va_G} {cA : Nat → ClassId} {base : Nat} {sA : Nat → Nat} {r0 : Nat} {r1 : Nat} {x2 : Int32} {h hE : Zh} {rE : Int32} (hf : fX0_isShownOf r0 r1 x2 h = some (rE, hE)) : zC l yX0_isShownOf cX0_isShownOf 6 (some .boolean) 2 45 D cA base sA [.ref (base + r0), .ref (base + r1), .int x2] h (some (.int rE)) hE := by
  refine g_entry RX0 (by decide) rfl (Nat.le_of_ble_eq_true rfl) ?_
  intro p e s m args below meth c X hr
  unfold fX0_isShownOf at hf
  have hf := zlet_n (x := h) rfl hf
  show zG p l e { frames := 2, cells := 0, slots := 0, locals := 45 } s m args below meth c (MQ below (zQ D cA base h hE (some (.int rE))) args s 0 0 (zA base)) 6 D cA base h 0 [(0, .ref (base + r0)), (1, .ref (base + r1)), (2, .int x2)] [] h
  refine g_iconst X (v := 0) dX0_isShownOf_0 (by decide) ?_
  refine g_istore_n X [(3, .int ((0 : Int32))), (0, .ref (base + r0)), (1, .ref (base + r1)), (2, .int x2)] dX0_isShownOf_1 (by decide) rfl ?_
  refine g_iconst X (v := 0) dX0_isShownOf_2 (by decide) ?_
  refine g_istore X [(4, .int ((0 : Int32))), (3, .int ((0 : Int32))), (0, .ref (base + r0)), (1, .ref (base + r1)), (2, .int x2)] dX0_isShownOf_3 (by decide) rfl ?_
  refine g_sub [2, 3, 4, 1, 0] rfl ?_
  obtain ⟨qq, hlp, hf⟩ := zbd hf
  refine lp_snd (body := (fun q : Int32 × Int32 × Zh => bX0_isShownOf_5 h r0 r1 x2 q.1 q.2.1 q.2.2)) (P := (fun q : Int32 × Int32 × Zh => zG p l e { frames := 2, cells := 0, slots := 0, locals := 45 } s m args below meth c (MQ below (zQ D cA base h hE (some (.int rE))) args s 0 0 (zA base)) 6 D cA base h 5 [(0, .ref (base + r0)), (1, .ref (base + r1)), (2, .int x2), (3, .int q.1), (4, .int q.2.1)] [] q.2.2)) (E := (fun (en : Nat) (q : Int32 × Int32 × Zh) => if en = 1 then zG p l e { frames := 2, cells := 0, slots := 0, locals := 45 } s m args below meth c (MQ below (zQ D cA base h hE (some (.int rE))) args s 0 0 (zA base)) 6 D cA base h 67 [] [] q.2.2 else zG p l e { frames := 2, cells := 0, slots := 0, locals := 45 } s m args below meth c (MQ below (zQ D cA base h hE (some (.int rE))) args s 0 0 (zA base)) 6 D cA base h 80 [] [] q.2.2)) ?_ zB ((0 : Int32), ((0 : Int32), h)) qq.1 qq.2 hlp ?_
  · intro q e_5 q_5 hf hc0 hc1
    obtain ⟨x3_5, x4_5, h_5⟩ := q
    have hf : bX0_isShownOf_5 h r0 r1 x2 x3_5 x4_5 h_5 = some (e_5, q_5) := hf
    unfold bX0_isShownOf_5 at hf
    show zG p l e { frames := 2, cells := 0, slots := 0, locals := 45 } s m args below meth c (MQ below (zQ D cA base h hE (some (.int rE))) args s 0 0 (zA base)) 6 D cA base h 5 [(0, .ref (base + r0)), (1, .ref (base + r1)), (2, .int x2), (3, .int x3_5), (4, .int x4_5)] [] h_5
    refine g_iload X 4 dX0_isShownOf_5 rfl ?_
    refine g_aload_n X 0 dX0_isShownOf_7 rfl ?_
    obtain ⟨hk1, hf⟩ := zite hf
    refine g_get X zf0 hk1 5 (by decide) w_f_RX0_33 rfl rfl dX0_isShownOf_8 ?_
    refine g_icmp_ge X 80 dX0_isShownOf_11 (by decide) (fun hq => ?_) (fun hq => ?_)
    · have hf := zpos hq hf
      cases hf
      have hc1 := hc1 (by decide)
      exact g_sub [] rfl (zun_n (by decide) hc1)
    · have hf := zneg hq hf
      refine g_aload_n X 0 dX0_isShownOf_14 rfl ?_
      refine g_iload_n X 2 dX0_isShownOf_15 rfl ?_
      refine g_aload_n X 1 dX0_isShownOf_16 rfl ?_
      refine g_iload X 4 dX0_isShownOf_17 rfl ?_
      obtain ⟨hk2, hf⟩ := zite hf
      obtain ⟨hi3, hf⟩ := zite hf
      refine g_iald X hk2 hi3 dX0_isShownOf_19 ?_
      refine g_aload_n X 0 dX0_isShownOf_20 rfl ?_
      refine g_get X zf0 hk1 6 (by decide) w_f_RX0_36 rfl rfl dX0_isShownOf_21 ?_
      have hJ32 : ∀ (x4_32 : Int32) (t0_32 : Int32) (t1_32 : Int32) (t2_32 : Int32) (t3_32 : Nat) (h_32 : Zh), jX0_isShownOf_32 h r0 r1 x2 x4_32 t0_32 t1_32 t2_32 t3_32 h_32 = some (e_5, q_5) → zG p l e { frames := 2, cells := 0, slots := 0, locals := 45 } s m args below meth c (MQ below (zQ D cA base h hE (some (.int rE))) args s 0 0 (zA base)) 6 D cA base h 32 [(0, .ref (base + r0)), (1, .ref (base + r1)), (2, .int x2), (4, .int x4_32)] [.int t0_32, .int t1_32, .int t2_32, .ref (base + t3_32)] h_32 := by
        intro x4_32 t0_32 t1_32 t2_32 t3_32 h_32 hf
        unfold jX0_isShownOf_32 at hf
        obtain ⟨hk4, hf⟩ := zite hf
        obtain ⟨v6, h5, hch5, hf⟩ := zc2_e hf
        refine g_callV X 3 (sX0_placeIn hch5) zf0 hk4 ydX0_placeIn w_ml_RX0_85 w_instanceMethod_X0_placeIn w_sel_X0_placeIn w_ini_RX0 w_code_X0_placeIn (by decide) rfl (st := []) rfl rfl (Nat.le_of_ble_eq_true rfl) dX0_isShownOf_32 ?_
        refine g_istore X [(5, .int v6), (0, .ref (base + r0)), (1, .ref (base + r1)), (2, .int x2), (4, .int x4_32)] dX0_isShownOf_35 (by decide) rfl ?_
        refine g_iload X 0 dX0_isShownOf_37 rfl ?_
        refine g_if_lt X 67 dX0_isShownOf_39 (by decide) (fun hq => ?_) (fun hq => ?_)
        · have hf := zpos hq hf
          cases hf
          have hc1 := hc1 (by decide)
          exact g_sub [] rfl (zun_p rfl hc1)
        · have hf := zneg hq hf
          refine g_aload_n X 1 dX0_isShownOf_42 rfl ?_
          refine g_get X zf0 hk1 7 (by decide) w_f_RX0_40 rfl rfl dX0_isShownOf_43 ?_
          refine g_if_eq X 69 dX0_isShownOf_46 (by decide) (fun hq => ?_) (fun hq => ?_)
          · have hf := zpos hq hf
            refine g_iload X 0 dX0_isShownOf_69 rfl ?_
            refine g_iconst X (v := 1) dX0_isShownOf_71 (by decide) ?_
            refine g_iadd X dX0_isShownOf_72 ?_
            refine g_topi (fun y7 ey7 => ?_)
            have hf := zlet_n ey7 hf
            refine g_istore_n X [(3, .int y7), (5, .int v6), (0, .ref (base + r0)), (1, .ref (base + r1)), (2, .int x2), (4, .int x4_32)] dX0_isShownOf_73 (by decide) rfl ?_
            obtain ⟨y8, ey8⟩ : ∃ y : Int32, y = x4_32 + (1 : Int32) := ⟨_, rfl⟩
            have hf := zlet_n ey8 hf
            refine g_iinc X (j := 5) [(4, .int y8), (3, .int y7), (5, .int v6), (0, .ref (base + r0)), (1, .ref (base + r1)), (2, .int x2)] dX0_isShownOf_74 rfl (by rw [ey8]; rfl) (by decide) rfl ?_
            refine g_goto X 5 dX0_isShownOf_77 (by decide) ?_
            cases hf
            exact g_sub [3, 4, 5, 1, 0] rfl (hc0 rfl)
          · have hf := zneg hq hf
            refine g_iload X 4 dX0_isShownOf_49 rfl ?_
            refine g_if_le X 69 dX0_isShownOf_51 (by decide) (fun hq => ?_) (fun hq => ?_)
            · have hf := zpos hq hf
              refine g_iload X 0 dX0_isShownOf_69 rfl ?_
              refine g_iconst X (v := 1) dX0_isShownOf_71 (by decide) ?_
              refine g_iadd X dX0_isShownOf_72 ?_
              refine g_topi (fun y9 ey9 => ?_)
              have hf := zlet_n ey9 hf
              refine g_istore_n X [(3, .int y9), (5, .int v6), (0, .ref (base + r0)), (1, .ref (base + r1)), (2, .int x2), (4, .int x4_32)] dX0_isShownOf_73 (by decide) rfl ?_
              obtain ⟨y10, ey10⟩ : ∃ y : Int32, y = x4_32 + (1 : Int32) := ⟨_, rfl⟩
              have hf := zlet_n ey10 hf
              refine g_iinc X (j := 5) [(4, .int y10), (3, .int y9), (5, .int v6), (0, .ref (base + r0)), (1, .ref (base + r1)), (2, .int x2)] dX0_isShownOf_74 rfl (by rw [ey10]; rfl) (by decide) rfl ?_
              refine g_goto X 5 dX0_isShownOf_77 (by decide) ?_
              cases hf
              exact g_sub [3, 4, 5, 1, 0] rfl (hc0 rfl)
            · have hf := zneg hq hf
              refine g_aload_n X 2 dX0_isShownOf_54 rfl ?_
              refine g_iload X 4 dX0_isShownOf_55 rfl ?_
              obtain ⟨hi11, hf⟩ := zite hf
              refine g_iald X hk2 hi11 dX0_isShownOf_57 ?_
              refine g_aload_n X 2 dX0_isShownOf_58 rfl ?_
              refine g_iload X 4 dX0_isShownOf_59 rfl ?_
              refine g_iconst X (v := 1) dX0_isShownOf_61 (by decide) ?_
              refine g_isub X dX0_isShownOf_62 ?_
              obtain ⟨hi12, hf⟩ := zite hf
              refine g_iald X hk2 hi12 dX0_isShownOf_63 ?_
              refine g_icmp_ge X 69 dX0_isShownOf_64 (by decide) (fun hq => ?_) (fun hq => ?_)
              · have hf := zpos hq hf
                refine g_iload X 0 dX0_isShownOf_69 rfl ?_
                refine g_iconst X (v := 1) dX0_isShownOf_71 (by decide) ?_
                refine g_iadd X dX0_isShownOf_72 ?_
                refine g_topi (fun y13 ey13 => ?_)
                have hf := zlet_n ey13 hf
                refine g_istore_n X [(3, .int y13), (5, .int v6), (0, .ref (base + r0)), (1, .ref (base + r1)), (2, .int x2), (4, .int x4_32)] dX0_isShownOf_73 (by decide) rfl ?_
                obtain ⟨y14, ey14⟩ : ∃ y : Int32, y = x4_32 + (1 : Int32) := ⟨_, rfl⟩
                have hf := zlet_n ey14 hf
                refine g_iinc X (j := 5) [(4, .int y14), (3, .int y13), (5, .int v6), (0, .ref (base + r0)), (1, .ref (base + r1)), (2, .int x2)] dX0_isShownOf_74 rfl (by rw [ey14]; rfl) (by decide) rfl ?_
                refine g_goto X 5 dX0_isShownOf_77 (by decide) ?_
                cases hf
                exact g_sub [3, 4, 5, 1, 0] rfl (hc0 rfl)
              · have hf := zneg hq hf
                cases hf
                have hc1 := hc1 (by decide)
                exact g_sub [] rfl (zun_p rfl hc1)
      refine g_if_eq X 31 dX0_isShownOf_24 (by decide) (fun hq => ?_) (fun hq => ?_)
      · have hf := zpos hq hf
        refine g_iconst X (v := 0) dX0_isShownOf_31 (by decide) ?_
        refine g_sub [0, 1, 2, 4] rfl ?_
        exact hJ32 _ _ _ _ _ _ hf
      · have hf := zneg hq hf
        refine g_iload_n X 3 dX0_isShownOf_27 rfl ?_
        refine g_goto X 32 dX0_isShownOf_28 (by decide) ?_
        refine g_sub [0, 1, 2, 4] rfl ?_
        exact hJ32 _ _ _ _ _ _ hf
  · obtain ⟨ee, x3_k5, x4_k5, h_k5⟩ := qq
    have hf : kX0_isShownOf_5 h ee x3_k5 x4_k5 h_k5 = some (rE, hE) := hf
    unfold kX0_isShownOf_5 at hf
    by_cases hee0 : ee = 1
    · have hf := zpos hee0 hf
      refine zifp hee0 ?_
      show zG p l e { frames := 2, cells := 0, slots := 0, locals := 45 } s m args below meth c (MQ below (zQ D cA base h hE (some (.int rE))) args s 0 0 (zA base)) 6 D cA base h 67 [] [] h_k5
      refine g_iconst X (v := 0) dX0_isShownOf_67 (by decide) ?_
      obtain ⟨rfl, rfl⟩ := zsm hf
      exact g_zret X (Or.inl rfl) hr dX0_isShownOf_68
    have hf := zneg hee0 hf
    refine zifn hee0 ?_
    show zG p l e { frames := 2, cells := 0, slots := 0, locals := 45 } s m args below meth c (MQ below (zQ D cA base h hE (some (.int rE))) args s 0 0 (zA base)) 6 D cA base h 80 [] [] h_k5
    refine g_iconst X (v := 1) dX0_isShownOf_80 (by decide) ?_
    obtain ⟨rfl, rfl⟩ := zsm hf
    exact g_zret X (Or.inr rfl) hr dX0_isShownOf_81

set_option maxHeartbeats 4000000 in
set_option maxRecDepth 100000 in
theorem sX0_keptCard {l : Launch} {D : va_G} {cA : Nat → ClassId} {base : Nat} {sA : Nat → Nat} {r0 : Nat} {r1 : Nat} {x2 : Int32} {x3 : Int32} {h hE : Zh} {rE : Int32} (hf : fX0_keptCard r0 r1 x2 x3 h = some (rE, hE)) : zC l yX0_keptCard cX0_keptCard 6 (some .int) 2 41 D cA base sA [.ref (base + r0), .ref (base + r1), .int x2, .int x3] h (some (.int rE)) hE := by
  refine g_entry RX0 (by decide) rfl (Nat.le_of_ble_eq_true rfl) ?_
  intro p e s m args below meth c X hr
  unfold fX0_keptCard at hf
  have hf := zlet_n (x := h) rfl hf
  show zG p l e { frames := 2, cells := 0, slots := 0, locals := 41 } s m args below meth c (MQ below (zQ D cA base h hE (some (.int rE))) args s 0 0 (zA base)) 6 D cA base h 0 [(0, .ref (base + r0)), (1, .ref (base + r1)), (2, .int x2), (3, .int x3)] [] h
  refine g_iconst X (v := 0) dX0_keptCard_0 (by decide) ?_
  refine g_istore X [(4, .int ((0 : Int32))), (0, .ref (base + r0)), (1, .ref (base + r1)), (2, .int x2), (3, .int x3)] dX0_keptCard_1 (by decide) rfl ?_
  refine g_iconst X (v := 0) dX0_keptCard_3 (by decide) ?_
  refine g_istore X [(5, .int ((0 : Int32))), (4, .int ((0 : Int32))), (0, .ref (base + r0)), (1, .ref (base + r1)), (2, .int x2), (3, .int x3)] dX0_keptCard_4 (by decide) rfl ?_
  refine g_sub [2, 3, 4, 5, 1, 0] rfl ?_
  obtain ⟨qq, hlp, hf⟩ := zbd hf
  refine lp_snd (body := (fun q : Int32 × Int32 × Zh => bX0_keptCard_6 h r0 x2 q.1 q.2.1 q.2.2)) (P := (fun q : Int32 × Int32 × Zh => zG p l e { frames := 2, cells := 0, slots := 0, locals := 41 } s m args below meth c (MQ below (zQ D cA base h hE (some (.int rE))) args s 0 0 (zA base)) 6 D cA base h 6 [(0, .ref (base + r0)), (1, .ref (base + r1)), (2, .int x2), (3, .int x3), (4, .int q.1), (5, .int q.2.1)] [] q.2.2)) (E := (fun (en : Nat) (q : Int32 × Int32 × Zh) => zG p l e { frames := 2, cells := 0, slots := 0, locals := 41 } s m args below meth c (MQ below (zQ D cA base h hE (some (.int rE))) args s 0 0 (zA base)) 6 D cA base h 34 [(0, .ref (base + r0)), (1, .ref (base + r1)), (3, .int x3), (4, .int q.1)] [] q.2.2)) ?_ zB ((0 : Int32), ((0 : Int32), h)) qq.1 qq.2 hlp ?_
  · intro q e_6 q_6 hf hc0 hc1
    obtain ⟨x4_6, x5_6, h_6⟩ := q
    have hf : bX0_keptCard_6 h r0 x2 x4_6 x5_6 h_6 = some (e_6, q_6) := hf
    unfold bX0_keptCard_6 at hf
    show zG p l e { frames := 2, cells := 0, slots := 0, locals := 41 } s m args below meth c (MQ below (zQ D cA base h hE (some (.int rE))) args s 0 0 (zA base)) 6 D cA base h 6 [(0, .ref (base + r0)), (1, .ref (base + r1)), (2, .int x2), (3, .int x3), (4, .int x4_6), (5, .int x5_6)] [] h_6
    refine g_iload X 5 dX0_keptCard_6 rfl ?_
    refine g_aload_n X 0 dX0_keptCard_8 rfl ?_
    obtain ⟨hk1, hf⟩ := zite hf
    refine g_get X zf0 hk1 3 (by decide) w_f_RX0_27 rfl rfl dX0_keptCard_9 ?_
    refine g_icmp_ge X 34 dX0_keptCard_12 (by decide) (fun hq => ?_) (fun hq => ?_)
    · have hf := zpos hq hf
      cases hf
      have hc1 := hc1 (by decide)
      exact g_sub [0, 1, 3, 4] rfl hc1
    · have hf := zneg hq hf
      refine g_iload X 4 dX0_keptCard_15 rfl ?_
      refine g_iconst X (v := 1) dX0_keptCard_17 (by decide) ?_
      refine g_iload_n X 2 dX0_keptCard_18 rfl ?_
      refine g_iload X 5 dX0_keptCard_19 rfl ?_
      obtain ⟨v3, h2, hch2, hf⟩ := zc2_e hf
      refine g_callS X 2 (sX0_cardAt hch2) ysX0_cardAt w_ml_RX0_89 w_static_X0_cardAt w_ini_RX0 w_code_X0_cardAt (by decide) rfl (st := [.int ((1 : Int32)), .int x4_6]) rfl rfl (Nat.le_of_ble_eq_true rfl) dX0_keptCard_21 ?_
      refine g_ishl X dX0_keptCard_24 ?_
      refine g_ior X dX0_keptCard_25 ?_
      refine g_topi (fun y4 ey4 => ?_)
      have hf := zlet_n ey4 hf
      refine g_istore X [(4, .int y4), (0, .ref (base + r0)), (1, .ref (base + r1)), (2, .int x2), (3, .int x3), (5, .int x5_6)] dX0_keptCard_26 (by decide) rfl ?_
      obtain ⟨y5, ey5⟩ : ∃ y : Int32, y = x5_6 + (1 : Int32) := ⟨_, rfl⟩
      have hf := zlet_n ey5 hf
      refine g_iinc X (j := 5) [(5, .int y5), (4, .int y4), (0, .ref (base + r0)), (1, .ref (base + r1)), (2, .int x2), (3, .int x3)] dX0_keptCard_28 rfl (by rw [ey5]; rfl) (by decide) rfl ?_
      refine g_goto X 6 dX0_keptCard_31 (by decide) ?_
      cases hf
      exact g_sub [2, 3, 4, 5, 1, 0] rfl (hc0 rfl)
  · obtain ⟨ee, x4_k6, x5_k6, h_k6⟩ := qq
    have hf : kX0_keptCard_6 h r0 r1 x3 ee x4_k6 x5_k6 h_k6 = some (rE, hE) := hf
    unfold kX0_keptCard_6 at hf
    show zG p l e { frames := 2, cells := 0, slots := 0, locals := 41 } s m args below meth c (MQ below (zQ D cA base h hE (some (.int rE))) args s 0 0 (zA base)) 6 D cA base h 34 [(0, .ref (base + r0)), (1, .ref (base + r1)), (3, .int x3), (4, .int x4_k6)] [] h_k6
    refine g_iconst X (v := 0) dX0_keptCard_34 (by decide) ?_
    refine g_istore X [(5, .int ((0 : Int32))), (0, .ref (base + r0)), (1, .ref (base + r1)), (3, .int x3), (4, .int x4_k6)] dX0_keptCard_35 (by decide) rfl ?_
    refine g_sub [1, 2, 3, 4, 0] rfl ?_
    obtain ⟨qq, hlp, hf⟩ := zbd hf
    refine lp_snd (body := (fun q : Int32 × Int32 × Zh => bX0_keptCard_37 h r0 r1 q.1 q.2.1 q.2.2)) (P := (fun q : Int32 × Int32 × Zh => zG p l e { frames := 2, cells := 0, slots := 0, locals := 41 } s m args below meth c (MQ below (zQ D cA base h hE (some (.int rE))) args s 0 0 (zA base)) 6 D cA base h 37 [(0, .ref (base + r0)), (1, .ref (base + r1)), (3, .int x3), (4, .int q.1), (5, .int q.2.1)] [] q.2.2)) (E := (fun (en : Nat) (q : Int32 × Int32 × Zh) => zG p l e { frames := 2, cells := 0, slots := 0, locals := 41 } s m args below meth c (MQ below (zQ D cA base h hE (some (.int rE))) args s 0 0 (zA base)) 6 D cA base h 65 [(0, .ref (base + r0)), (3, .int x3), (4, .int q.1)] [] q.2.2)) ?_ zB (x4_k6, ((0 : Int32), h_k6)) qq.1 qq.2 hlp ?_
    · intro q e_37 q_37 hf hc0 hc1
      obtain ⟨x4_37, x5_37, h_37⟩ := q
      have hf : bX0_keptCard_37 h r0 r1 x4_37 x5_37 h_37 = some (e_37, q_37) := hf
      unfold bX0_keptCard_37 at hf
      show zG p l e { frames := 2, cells := 0, slots := 0, locals := 41 } s m args below meth c (MQ below (zQ D cA base h hE (some (.int rE))) args s 0 0 (zA base)) 6 D cA base h 37 [(0, .ref (base + r0)), (1, .ref (base + r1)), (3, .int x3), (4, .int x4_37), (5, .int x5_37)] [] h_37
      refine g_iload X 4 dX0_keptCard_37 rfl ?_
      refine g_aload_n X 0 dX0_keptCard_39 rfl ?_
      obtain ⟨hk6, hf⟩ := zite hf
      refine g_get X zf0 hk6 5 (by decide) w_f_RX0_33 rfl rfl dX0_keptCard_40 ?_
      refine g_icmp_ge X 65 dX0_keptCard_43 (by decide) (fun hq => ?_) (fun hq => ?_)
      · have hf := zpos hq hf
        cases hf
        have hc1 := hc1 (by decide)
        exact g_sub [0, 2, 3] rfl hc1
      · have hf := zneg hq hf
        refine g_iload X 3 dX0_keptCard_46 rfl ?_
        refine g_iconst X (v := 1) dX0_keptCard_48 (by decide) ?_
        refine g_aload_n X 1 dX0_keptCard_49 rfl ?_
        refine g_iload X 4 dX0_keptCard_50 rfl ?_
        obtain ⟨hk7, hf⟩ := zite hf
        obtain ⟨hi8, hf⟩ := zite hf
        refine g_iald X hk7 hi8 dX0_keptCard_52 ?_
        refine g_ishl X dX0_keptCard_53 ?_
        refine g_iconst X (v := -1) dX0_keptCard_54 (by decide) ?_
        refine g_ixor X dX0_keptCard_55 ?_
        refine g_iand X dX0_keptCard_56 ?_
        refine g_topi (fun y9 ey9 => ?_)
        have hf := zlet_n ey9 hf
        refine g_istore X [(4, .int y9), (0, .ref (base + r0)), (1, .ref (base + r1)), (3, .int x3), (5, .int x5_37)] dX0_keptCard_57 (by decide) rfl ?_
        obtain ⟨y10, ey10⟩ : ∃ y : Int32, y = x5_37 + (1 : Int32) := ⟨_, rfl⟩
        have hf := zlet_n ey10 hf
        refine g_iinc X (j := 4) [(5, .int y10), (4, .int y9), (0, .ref (base + r0)), (1, .ref (base + r1)), (3, .int x3)] dX0_keptCard_59 rfl (by rw [ey10]; rfl) (by decide) rfl ?_
        refine g_goto X 37 dX0_keptCard_62 (by decide) ?_
        cases hf
        exact g_sub [2, 3, 4, 1, 0] rfl (hc0 rfl)
    · obtain ⟨ee, x4_k37, x5_k37, h_k37⟩ := qq
      have hf : kX0_keptCard_37 h r0 x3 ee x4_k37 x5_k37 h_k37 = some (rE, hE) := hf
      unfold kX0_keptCard_37 at hf
      show zG p l e { frames := 2, cells := 0, slots := 0, locals := 41 } s m args below meth c (MQ below (zQ D cA base h hE (some (.int rE))) args s 0 0 (zA base)) 6 D cA base h 65 [(0, .ref (base + r0)), (3, .int x3), (4, .int x4_k37)] [] h_k37
      refine g_iconst X (v := 0) dX0_keptCard_65 (by decide) ?_
      refine g_istore X [(5, .int ((0 : Int32))), (0, .ref (base + r0)), (3, .int x3), (4, .int x4_k37)] dX0_keptCard_66 (by decide) rfl ?_
      refine g_sub [1, 2, 3, 0] rfl ?_
      obtain ⟨qq, hlp, hf⟩ := zbd hf
      refine lp_snd (body := (fun q : Int32 × Zh => bX0_keptCard_68 h r0 x3 x4_k37 q.1 q.2)) (P := (fun q : Int32 × Zh => zG p l e { frames := 2, cells := 0, slots := 0, locals := 41 } s m args below meth c (MQ below (zQ D cA base h hE (some (.int rE))) args s 0 0 (zA base)) 6 D cA base h 68 [(0, .ref (base + r0)), (3, .int x3), (4, .int x4_k37), (5, .int q.1)] [] q.2)) (E := (fun (en : Nat) (q : Int32 × Zh) => if en = 1 then zG p l e { frames := 2, cells := 0, slots := 0, locals := 41 } s m args below meth c (MQ below (zQ D cA base h hE (some (.int rE))) args s 0 0 (zA base)) 6 D cA base h 99 [(5, .int q.1)] [] q.2 else zG p l e { frames := 2, cells := 0, slots := 0, locals := 41 } s m args below meth c (MQ below (zQ D cA base h hE (some (.int rE))) args s 0 0 (zA base)) 6 D cA base h 108 [] [] q.2)) ?_ zB ((0 : Int32), h_k37) qq.1 qq.2 hlp ?_
      · intro q e_68 q_68 hf hc0 hc1
        obtain ⟨x5_68, h_68⟩ := q
        have hf : bX0_keptCard_68 h r0 x3 x4_k37 x5_68 h_68 = some (e_68, q_68) := hf
        unfold bX0_keptCard_68 at hf
        show zG p l e { frames := 2, cells := 0, slots := 0, locals := 41 } s m args below meth c (MQ below (zQ D cA base h hE (some (.int rE))) args s 0 0 (zA base)) 6 D cA base h 68 [(0, .ref (base + r0)), (3, .int x3), (4, .int x4_k37), (5, .int x5_68)] [] h_68
        refine g_iload X 3 dX0_keptCard_68 rfl ?_
        refine g_aload_n X 0 dX0_keptCard_70 rfl ?_
        obtain ⟨hk11, hf⟩ := zite hf
        refine g_get X zf0 hk11 0 (by decide) w_f_RX0_18 rfl rfl dX0_keptCard_71 ?_
        refine g_icmp_ge X 108 dX0_keptCard_74 (by decide) (fun hq => ?_) (fun hq => ?_)
        · have hf := zpos hq hf
          cases hf
          have hc1 := hc1 (by decide)
          exact g_sub [] rfl (zun_n (by decide) hc1)
        · have hf := zneg hq hf
          refine g_iload X 2 dX0_keptCard_77 rfl ?_
          refine g_iload X 3 dX0_keptCard_79 rfl ?_
          refine g_ishr X dX0_keptCard_81 ?_
          refine g_iconst X (v := 1) dX0_keptCard_82 (by decide) ?_
          refine g_iand X dX0_keptCard_83 ?_
          refine g_iconst X (v := 1) dX0_keptCard_84 (by decide) ?_
          refine g_icmp_ne X 102 dX0_keptCard_85 (by decide) (fun hq => ?_) (fun hq => ?_)
          · have hf := zneg hq hf
            obtain ⟨y12, ey12⟩ : ∃ y : Int32, y = x5_68 + (1 : Int32) := ⟨_, rfl⟩
            have hf := zlet_n ey12 hf
            refine g_iinc X (j := 3) [(5, .int y12), (0, .ref (base + r0)), (3, .int x3), (4, .int x4_k37)] dX0_keptCard_102 rfl (by rw [ey12]; rfl) (by decide) rfl ?_
            refine g_goto X 68 dX0_keptCard_105 (by decide) ?_
            cases hf
            exact g_sub [1, 2, 3, 0] rfl (hc0 rfl)
          · have hf := zpos hq hf
            refine g_iload X 2 dX0_keptCard_88 rfl ?_
            refine g_iload X 3 dX0_keptCard_90 rfl ?_
            obtain ⟨v14, h13, hch13, hf⟩ := zc2_e hf
            refine g_callS X 2 (sX0_lower hch13) ysX0_lower w_ml_RX0_92 w_static_X0_lower w_ini_RX0 w_code_X0_lower (by decide) rfl (st := []) rfl rfl (Nat.le_of_ble_eq_true rfl) dX0_keptCard_92 ?_
            refine g_iload_n X 1 dX0_keptCard_95 rfl ?_
            refine g_icmp_ne X 102 dX0_keptCard_96 (by decide) (fun hq => ?_) (fun hq => ?_)
            · have hf := zneg hq hf
              obtain ⟨y15, ey15⟩ : ∃ y : Int32, y = x5_68 + (1 : Int32) := ⟨_, rfl⟩
              have hf := zlet_n ey15 hf
              refine g_iinc X (j := 3) [(5, .int y15), (0, .ref (base + r0)), (3, .int x3), (4, .int x4_k37)] dX0_keptCard_102 rfl (by rw [ey15]; rfl) (by decide) rfl ?_
              refine g_goto X 68 dX0_keptCard_105 (by decide) ?_
              cases hf
              exact g_sub [1, 2, 3, 0] rfl (hc0 rfl)
            · have hf := zpos hq hf
              cases hf
              have hc1 := hc1 (by decide)
              exact g_sub [3] rfl (zun_p rfl hc1)
      · obtain ⟨ee, x5_k68, h_k68⟩ := qq
        have hf : kX0_keptCard_68 h ee x5_k68 h_k68 = some (rE, hE) := hf
        unfold kX0_keptCard_68 at hf
        by_cases hee0 : ee = 1
        · have hf := zpos hee0 hf
          refine zifp hee0 ?_
          show zG p l e { frames := 2, cells := 0, slots := 0, locals := 41 } s m args below meth c (MQ below (zQ D cA base h hE (some (.int rE))) args s 0 0 (zA base)) 6 D cA base h 99 [(5, .int x5_k68)] [] h_k68
          refine g_iload X 0 dX0_keptCard_99 rfl ?_
          obtain ⟨rfl, rfl⟩ := zsm hf
          exact g_iret X hr dX0_keptCard_101
        have hf := zneg hee0 hf
        refine zifn hee0 ?_
        show zG p l e { frames := 2, cells := 0, slots := 0, locals := 41 } s m args below meth c (MQ below (zQ D cA base h hE (some (.int rE))) args s 0 0 (zA base)) 6 D cA base h 108 [] [] h_k68
        refine g_iconst X (v := -1) dX0_keptCard_108 (by decide) ?_
        obtain ⟨rfl, rfl⟩ := zsm hf
        exact g_iret X hr dX0_keptCard_109

set_option maxHeartbeats 4000000 in
set_option maxRecDepth 100000 in
theorem sX1_clear {l : Launch} {D : va_G} {cA : Nat → ClassId} {base : Nat} {sA : Nat → Nat} {r0 : Nat} {h hE : Zh} (hf : fX1_clear r0 h = some hE) : zC l yX1_clear cX1_clear 1 none 0 0 D cA base sA [.ref (base + r0)] h none hE := by
  refine g_entry RX1 (by decide) rfl (Nat.le_of_ble_eq_true rfl) ?_
  intro p e s m args below meth c X hr
  unfold fX1_clear at hf
  have hf := zlet_n (x := h) rfl hf
  show zG p l e { frames := 0, cells := 0, slots := 0, locals := 0 } s m args below meth c (MQ below (zQ D cA base h hE none) args s 0 0 (zA base)) 1 D cA base h 0 [(0, .ref (base + r0))] [] h
  refine g_aload_n X 0 dX1_clear_0 rfl ?_
  refine g_iconst X (v := 0) dX1_clear_1 (by decide) ?_
  obtain ⟨hk1, hf⟩ := zite hf
  refine g_putI X zf1 hk1 2 (by decide) w_f_RX1_18 rfl rfl rfl dX1_clear_2 ?_
  refine g_hp (fun h2 eh2 => ?_)
  have hf := zlet_n eh2 hf
  refine g_aload_n X 0 dX1_clear_5 rfl ?_
  refine g_iconst X (v := 0) dX1_clear_6 (by decide) ?_
  refine g_putI X zf1 hk1 3 (by decide) w_f_RX1_22 rfl rfl rfl dX1_clear_7 ?_
  refine g_hp (fun h3 eh3 => ?_)
  have hf := zlet_n eh3 hf
  cases hf
  exact g_vret X hr dX1_clear_10

set_option maxHeartbeats 4000000 in
set_option maxRecDepth 100000 in
theorem sX1_add {l : Launch} {D : va_G} {cA : Nat → ClassId} {base : Nat} {sA : Nat → Nat} {r0 : Nat} {x1 : Int32} {x2 : Int32} {h hE : Zh} (hf : fX1_add r0 x1 x2 h = some hE) : zC l yX1_add cX1_add 3 none 0 0 D cA base sA [.ref (base + r0), .int x1, .int x2] h none hE := by
  refine g_entry RX1 (by decide) rfl (Nat.le_of_ble_eq_true rfl) ?_
  intro p e s m args below meth c X hr
  unfold fX1_add at hf
  have hf := zlet_n (x := h) rfl hf
  show zG p l e { frames := 0, cells := 0, slots := 0, locals := 0 } s m args below meth c (MQ below (zQ D cA base h hE none) args s 0 0 (zA base)) 3 D cA base h 0 [(0, .ref (base + r0)), (1, .int x1), (2, .int x2)] [] h
  refine g_aload_n X 0 dX1_add_0 rfl ?_
  obtain ⟨hk1, hf⟩ := zite hf
  refine g_get X zf1 hk1 2 (by decide) w_f_RX1_18 rfl rfl dX1_add_1 ?_
  refine g_bipush X (v := 20) dX1_add_4 (by decide) ?_
  refine g_icmp_ge X 39 dX1_add_6 (by decide) (fun hq => ?_) (fun hq => ?_)
  · have hf := zpos hq hf
    cases hf
    exact g_vret X hr dX1_add_39
  · have hf := zneg hq hf
    refine g_aload_n X 0 dX1_add_9 rfl ?_
    obtain ⟨r_2, hr_2, hf⟩ := zbd hf
    refine g_get X zf1 hk1 0 (by decide) w_f_RX1_9 rfl (zfv_r hr_2 rfl) dX1_add_10 ?_
    refine g_aload_n X 0 dX1_add_13 rfl ?_
    refine g_get X zf1 hk1 2 (by decide) w_f_RX1_18 rfl rfl dX1_add_14 ?_
    refine g_iload_n X 1 dX1_add_17 rfl ?_
    obtain ⟨hk3, hf⟩ := zite hf
    obtain ⟨hi4, hf⟩ := zite hf
    refine g_iast X hk3 hi4 dX1_add_18 ?_
    refine g_hp (fun h5 eh5 => ?_)
    have hf := zlet_n eh5 hf
    refine g_aload_n X 0 dX1_add_19 rfl ?_
    obtain ⟨r_6, hr_6, hf⟩ := zbd hf
    refine g_get X zf1 hk1 1 (by decide) w_f_RX1_15 rfl (zfv_r hr_6 rfl) dX1_add_20 ?_
    refine g_aload_n X 0 dX1_add_23 rfl ?_
    refine g_get X zf1 hk1 2 (by decide) w_f_RX1_18 rfl rfl dX1_add_24 ?_
    refine g_iload_n X 2 dX1_add_27 rfl ?_
    obtain ⟨hk7, hf⟩ := zite hf
    obtain ⟨hi8, hf⟩ := zite hf
    refine g_iast X hk7 hi8 dX1_add_28 ?_
    refine g_hp (fun h9 eh9 => ?_)
    have hf := zlet_n eh9 hf
    refine g_aload_n X 0 dX1_add_29 rfl ?_
    refine g_dup X dX1_add_30 rfl ?_
    refine g_get X zf1 hk1 2 (by decide) w_f_RX1_18 rfl rfl dX1_add_31 ?_
    refine g_iconst X (v := 1) dX1_add_34 (by decide) ?_
    refine g_iadd X dX1_add_35 ?_
    refine g_putI X zf1 hk1 2 (by decide) w_f_RX1_18 rfl rfl rfl dX1_add_36 ?_
    refine g_hp (fun h10 eh10 => ?_)
    have hf := zlet_n eh10 hf
    cases hf
    exact g_vret X hr dX1_add_39

set_option maxHeartbeats 4000000 in
set_option maxRecDepth 100000 in
theorem sX2_clear {l : Launch} {D : va_G} {cA : Nat → ClassId} {base : Nat} {sA : Nat → Nat} {r0 : Nat} {h hE : Zh} (hf : fX2_clear r0 h = some hE) : zC l yX2_clear cX2_clear 1 none 0 0 D cA base sA [.ref (base + r0)] h none hE := by
  refine g_entry RX2 (by decide) rfl (Nat.le_of_ble_eq_true rfl) ?_
  intro p e s m args below meth c X hr
  unfold fX2_clear at hf
  have hf := zlet_n (x := h) rfl hf
  show zG p l e { frames := 0, cells := 0, slots := 0, locals := 0 } s m args below meth c (MQ below (zQ D cA base h hE none) args s 0 0 (zA base)) 1 D cA base h 0 [(0, .ref (base + r0))] [] h
  refine g_aload_n X 0 dX2_clear_0 rfl ?_
  refine g_iconst X (v := 0) dX2_clear_1 (by decide) ?_
  obtain ⟨hk1, hf⟩ := zite hf
  refine g_putZ X zf2 hk1 (Or.inl rfl) 2 (by decide) w_f_RX2_19 rfl rfl rfl dX2_clear_2 ?_
  refine g_hp (fun h2 eh2 => ?_)
  have hf := zlet_n eh2 hf
  refine g_aload_n X 0 dX2_clear_5 rfl ?_
  refine g_iconst X (v := 0) dX2_clear_6 (by decide) ?_
  refine g_putI X zf2 hk1 3 (by decide) w_f_RX2_23 rfl rfl rfl dX2_clear_7 ?_
  refine g_hp (fun h3 eh3 => ?_)
  have hf := zlet_n eh3 hf
  refine g_aload_n X 0 dX2_clear_10 rfl ?_
  refine g_iconst X (v := 0) dX2_clear_11 (by decide) ?_
  refine g_putI X zf2 hk1 4 (by decide) w_f_RX2_26 rfl rfl rfl dX2_clear_12 ?_
  refine g_hp (fun h4 eh4 => ?_)
  have hf := zlet_n eh4 hf
  refine g_aload_n X 0 dX2_clear_15 rfl ?_
  refine g_bipush X (v := -2) dX2_clear_16 (by decide) ?_
  refine g_putI X zf2 hk1 5 (by decide) w_f_RX2_29 rfl rfl rfl dX2_clear_18 ?_
  refine g_hp (fun h5 eh5 => ?_)
  have hf := zlet_n eh5 hf
  refine g_aload_n X 0 dX2_clear_21 rfl ?_
  refine g_bipush X (v := -2) dX2_clear_22 (by decide) ?_
  refine g_putI X zf2 hk1 6 (by decide) w_f_RX2_32 rfl rfl rfl dX2_clear_24 ?_
  refine g_hp (fun h6 eh6 => ?_)
  have hf := zlet_n eh6 hf
  refine g_aload_n X 0 dX2_clear_27 rfl ?_
  refine g_iconst X (v := 0) dX2_clear_28 (by decide) ?_
  refine g_putZ X zf2 hk1 (Or.inl rfl) 7 (by decide) w_f_RX2_35 rfl rfl rfl dX2_clear_29 ?_
  refine g_hp (fun h7 eh7 => ?_)
  have hf := zlet_n eh7 hf
  refine g_aload_n X 0 dX2_clear_32 rfl ?_
  refine g_iconst X (v := 0) dX2_clear_33 (by decide) ?_
  refine g_putZ X zf2 hk1 (Or.inl rfl) 8 (by decide) w_f_RX2_38 rfl rfl rfl dX2_clear_34 ?_
  refine g_hp (fun h8 eh8 => ?_)
  have hf := zlet_n eh8 hf
  refine g_aload_n X 0 dX2_clear_37 rfl ?_
  refine g_iconst X (v := 0) dX2_clear_38 (by decide) ?_
  refine g_putZ X zf2 hk1 (Or.inl rfl) 9 (by decide) w_f_RX2_41 rfl rfl rfl dX2_clear_39 ?_
  refine g_hp (fun h9 eh9 => ?_)
  have hf := zlet_n eh9 hf
  cases hf
  exact g_vret X hr dX2_clear_42

set_option maxHeartbeats 4000000 in
set_option maxRecDepth 100000 in
theorem sX3_sortHand {l : Launch} {D : va_G} {cA : Nat → ClassId} {base : Nat} {sA : Nat → Nat} {r0 : Nat} {r1 : Nat} {x2 : Int32} {h hE : Zh} (hf : fX3_sortHand r0 r1 x2 h = some hE) : zC l yX3_sortHand cX3_sortHand 4 none 1 24 D cA base sA [.ref (base + r0), .ref (base + r1), .int x2] h none hE := by
  refine g_entry RX3 (by decide) rfl (Nat.le_of_ble_eq_true rfl) ?_
  intro p e s m args below meth c X hr
  unfold fX3_sortHand at hf
  have hf := zlet_n (x := h) rfl hf
  show zG p l e { frames := 1, cells := 0, slots := 0, locals := 24 } s m args below meth c (MQ below (zQ D cA base h hE none) args s 0 0 (zA base)) 4 D cA base h 0 [(0, .ref (base + r0)), (1, .ref (base + r1)), (2, .int x2)] [] h
  refine g_iconst X (v := 0) dX3_sortHand_0 (by decide) ?_
  refine g_istore_n X [(3, .int ((0 : Int32))), (0, .ref (base + r0)), (1, .ref (base + r1)), (2, .int x2)] dX3_sortHand_1 (by decide) rfl ?_
  refine g_sub [1, 2, 3, 0] rfl ?_
  obtain ⟨qq, hlp, hf⟩ := zbd hf
  refine lp_snd (body := (fun q : Int32 × Zh => bX3_sortHand_2 h r0 r1 x2 q.1 q.2)) (P := (fun q : Int32 × Zh => zG p l e { frames := 1, cells := 0, slots := 0, locals := 24 } s m args below meth c (MQ below (zQ D cA base h hE none) args s 0 0 (zA base)) 4 D cA base h 2 [(0, .ref (base + r0)), (1, .ref (base + r1)), (2, .int x2), (3, .int q.1)] [] q.2)) (E := (fun (en : Nat) (q : Int32 × Zh) => zG p l e { frames := 1, cells := 0, slots := 0, locals := 24 } s m args below meth c (MQ below (zQ D cA base h hE none) args s 0 0 (zA base)) 4 D cA base h 27 [(0, .ref (base + r0)), (1, .ref (base + r1))] [] q.2)) ?_ zB ((0 : Int32), h) qq.1 qq.2 hlp ?_
  · intro q e_2 q_2 hf hc0 hc1
    obtain ⟨x3_2, h_2⟩ := q
    have hf : bX3_sortHand_2 h r0 r1 x2 x3_2 h_2 = some (e_2, q_2) := hf
    unfold bX3_sortHand_2 at hf
    show zG p l e { frames := 1, cells := 0, slots := 0, locals := 24 } s m args below meth c (MQ below (zQ D cA base h hE none) args s 0 0 (zA base)) 4 D cA base h 2 [(0, .ref (base + r0)), (1, .ref (base + r1)), (2, .int x2), (3, .int x3_2)] [] h_2
    refine g_iload_n X 3 dX3_sortHand_2 rfl ?_
    refine g_aload_n X 1 dX3_sortHand_3 rfl ?_
    obtain ⟨hk1, hf⟩ := zite hf
    refine g_get X zf0 hk1 3 (by decide) w_f_RX3_32 rfl rfl dX3_sortHand_4 ?_
    refine g_icmp_ge X 27 dX3_sortHand_7 (by decide) (fun hq => ?_) (fun hq => ?_)
    · have hf := zpos hq hf
      cases hf
      have hc1 := hc1 (by decide)
      exact g_sub [0, 1] rfl hc1
    · have hf := zneg hq hf
      refine g_aload_n X 0 dX3_sortHand_10 rfl ?_
      obtain ⟨hk2, hf⟩ := zite hf
      obtain ⟨r_3, hr_3, hf⟩ := zbd hf
      refine g_get X zf3 hk2 0 (by decide) w_f_RX3_9 rfl (zfv_r hr_3 rfl) dX3_sortHand_11 ?_
      refine g_iload_n X 3 dX3_sortHand_14 rfl ?_
      refine g_iload_n X 2 dX3_sortHand_15 rfl ?_
      refine g_iload_n X 3 dX3_sortHand_16 rfl ?_
      obtain ⟨v5, h4, hch4, hf⟩ := zc2_e hf
      refine g_callS X 2 (sX0_cardAt hch4) ysX0_cardAt w_ml_RX3_58 w_static_X0_cardAt w_ini_RX0 w_code_X0_cardAt (by decide) rfl (st := [.int x3_2, .ref (base + r_3)]) rfl rfl (Nat.le_of_ble_eq_true rfl) dX3_sortHand_17 ?_
      obtain ⟨hk6, hf⟩ := zite hf
      obtain ⟨hi7, hf⟩ := zite hf
      refine g_iast X hk6 hi7 dX3_sortHand_20 ?_
      refine g_hp (fun h8 eh8 => ?_)
      have hf := zlet_n eh8 hf
      obtain ⟨y9, ey9⟩ : ∃ y : Int32, y = x3_2 + (1 : Int32) := ⟨_, rfl⟩
      have hf := zlet_n ey9 hf
      refine g_iinc X (j := 3) [(3, .int y9), (0, .ref (base + r0)), (1, .ref (base + r1)), (2, .int x2)] dX3_sortHand_21 rfl (by rw [ey9]; rfl) (by decide) rfl ?_
      refine g_goto X 2 dX3_sortHand_24 (by decide) ?_
      cases hf
      exact g_sub [1, 2, 3, 0] rfl (hc0 rfl)
  · obtain ⟨ee, x3_k2, h_k2⟩ := qq
    have hf : kX3_sortHand_2 h r0 r1 ee x3_k2 h_k2 = some hE := hf
    unfold kX3_sortHand_2 at hf
    show zG p l e { frames := 1, cells := 0, slots := 0, locals := 24 } s m args below meth c (MQ below (zQ D cA base h hE none) args s 0 0 (zA base)) 4 D cA base h 27 [(0, .ref (base + r0)), (1, .ref (base + r1))] [] h_k2
    refine g_aload_n X 1 dX3_sortHand_27 rfl ?_
    obtain ⟨hk10, hf⟩ := zite hf
    refine g_get X zf0 hk10 6 (by decide) w_f_RX3_61 rfl rfl dX3_sortHand_28 ?_
    refine g_if_eq X 45 dX3_sortHand_31 (by decide) (fun hq => ?_) (fun hq => ?_)
    · have hf := zpos hq hf
      cases hf
      exact g_vret X hr dX3_sortHand_45
    · have hf := zneg hq hf
      refine g_aload_n X 0 dX3_sortHand_34 rfl ?_
      obtain ⟨hk11, hf⟩ := zite hf
      obtain ⟨r_12, hr_12, hf⟩ := zbd hf
      refine g_get X zf3 hk11 0 (by decide) w_f_RX3_9 rfl (zfv_r hr_12 rfl) dX3_sortHand_35 ?_
      refine g_aload_n X 1 dX3_sortHand_38 rfl ?_
      refine g_get X zf0 hk10 3 (by decide) w_f_RX3_32 rfl rfl dX3_sortHand_39 ?_
      obtain ⟨h13, hch13, hf⟩ := zbd hf
      refine g_callS X 2 (sX0_sort hch13) ysX0_sort w_ml_RX3_65 w_static_X0_sort w_ini_RX0 w_code_X0_sort (by decide) rfl (st := []) rfl rfl (Nat.le_of_ble_eq_true rfl) dX3_sortHand_42 ?_
      cases hf
      exact g_vret X hr dX3_sortHand_45

set_option maxHeartbeats 4000000 in
set_option maxRecDepth 100000 in
theorem sX3_keepPlace {l : Launch} {D : va_G} {cA : Nat → ClassId} {base : Nat} {sA : Nat → Nat} {r0 : Nat} {r1 : Nat} {x2 : Int32} {h hE : Zh} {rE : Int32} (hf : fX3_keepPlace r0 r1 x2 h = some (rE, hE)) : zC l yX3_keepPlace cX3_keepPlace 5 (some .int) 0 0 D cA base sA [.ref (base + r0), .ref (base + r1), .int x2] h (some (.int rE)) hE := by
  refine g_entry RX3 (by decide) rfl (Nat.le_of_ble_eq_true rfl) ?_
  intro p e s m args below meth c X hr
  unfold fX3_keepPlace at hf
  have hf := zlet_n (x := h) rfl hf
  show zG p l e { frames := 0, cells := 0, slots := 0, locals := 0 } s m args below meth c (MQ below (zQ D cA base h hE (some (.int rE))) args s 0 0 (zA base)) 5 D cA base h 0 [(0, .ref (base + r0)), (1, .ref (base + r1)), (2, .int x2)] [] h
  refine g_iload_n X 2 dX3_keepPlace_0 rfl ?_
  by_cases hs1 : x2 = 0
  · have hf := zpos hs1 hf
    refine g_tswIn X 28 dX3_keepPlace_1 (by rw [hs1]; decide) (by rw [hs1]; decide) (by rw [hs1]; rfl) (by decide) ?_
    refine g_iconst X (v := 0) dX3_keepPlace_28 (by decide) ?_
    obtain ⟨rfl, rfl⟩ := zsm hf
    exact g_iret X hr dX3_keepPlace_29
  have hf := zneg hs1 hf
  have ehs1 := lv_neT hs1 (a := 0) (by decide)
  by_cases hs3 : x2 = 1
  · have hf := zpos hs3 hf
    refine g_tswIn X 30 dX3_keepPlace_1 (by rw [hs3]; decide) (by rw [hs3]; decide) (by rw [hs3]; rfl) (by decide) ?_
    refine g_aload_n X 1 dX3_keepPlace_30 rfl ?_
    obtain ⟨hk2, hf⟩ := zite hf
    refine g_get X zf0 hk2 3 (by decide) w_f_RX3_32 rfl rfl dX3_keepPlace_31 ?_
    refine g_iconst X (v := 1) dX3_keepPlace_34 (by decide) ?_
    refine g_isub X dX3_keepPlace_35 ?_
    obtain ⟨rfl, rfl⟩ := zsm hf
    exact g_iret X hr dX3_keepPlace_36
  have hf := zneg hs3 hf
  have ehs3 := lv_neT hs3 (a := 1) (by decide)
  by_cases hs6 : x2 = 2
  · have hf := zpos hs6 hf
    refine g_tswIn X 37 dX3_keepPlace_1 (by rw [hs6]; decide) (by rw [hs6]; decide) (by rw [hs6]; rfl) (by decide) ?_
    refine g_aload_n X 1 dX3_keepPlace_37 rfl ?_
    obtain ⟨hk4, hf⟩ := zite hf
    refine g_get X zf0 hk4 3 (by decide) w_f_RX3_32 rfl rfl dX3_keepPlace_38 ?_
    refine g_aload_n X 1 dX3_keepPlace_41 rfl ?_
    refine g_get X zf0 hk4 4 (by decide) w_f_RX3_26 rfl rfl dX3_keepPlace_42 ?_
    refine g_isub X dX3_keepPlace_45 ?_
    refine g_iconst X (v := 2) dX3_keepPlace_46 (by decide) ?_
    obtain ⟨hn5, hf⟩ := zite hf
    refine g_idiv X hn5 dX3_keepPlace_47 ?_
    obtain ⟨rfl, rfl⟩ := zsm hf
    exact g_iret X hr dX3_keepPlace_48
  have hf := zneg hs6 hf
  have ehs6 := lv_neT hs6 (a := 2) (by decide)
  refine g_tswOut X 49 dX3_keepPlace_1 (by omega) (by decide) ?_
  refine g_iconst X (v := 0) dX3_keepPlace_49 (by decide) ?_
  refine g_istore_n X [(3, .int ((0 : Int32))), (0, .ref (base + r0)), (1, .ref (base + r1)), (2, .int x2)] dX3_keepPlace_50 (by decide) rfl ?_
  refine g_iconst X (v := 0) dX3_keepPlace_51 (by decide) ?_
  refine g_istore X [(4, .int ((0 : Int32))), (3, .int ((0 : Int32))), (0, .ref (base + r0)), (1, .ref (base + r1)), (2, .int x2)] dX3_keepPlace_52 (by decide) rfl ?_
  refine g_sub [2, 3, 1, 0] rfl ?_
  obtain ⟨qq, hlp, hf⟩ := zbd hf
  refine lp_snd (body := (fun q : Int32 × Int32 × Zh => bX3_keepPlace_54 h r0 r1 q.1 q.2.1 q.2.2)) (P := (fun q : Int32 × Int32 × Zh => zG p l e { frames := 0, cells := 0, slots := 0, locals := 0 } s m args below meth c (MQ below (zQ D cA base h hE (some (.int rE))) args s 0 0 (zA base)) 5 D cA base h 54 [(0, .ref (base + r0)), (1, .ref (base + r1)), (3, .int q.1), (4, .int q.2.1)] [] q.2.2)) (E := (fun (en : Nat) (q : Int32 × Int32 × Zh) => zG p l e { frames := 0, cells := 0, slots := 0, locals := 0 } s m args below meth c (MQ below (zQ D cA base h hE (some (.int rE))) args s 0 0 (zA base)) 5 D cA base h 79 [(1, .ref (base + r1)), (3, .int q.1)] [] q.2.2)) ?_ zB ((0 : Int32), ((0 : Int32), h)) qq.1 qq.2 hlp ?_
  · intro q e_54 q_54 hf hc0 hc1
    obtain ⟨x3_54, x4_54, h_54⟩ := q
    have hf : bX3_keepPlace_54 h r0 r1 x3_54 x4_54 h_54 = some (e_54, q_54) := hf
    unfold bX3_keepPlace_54 at hf
    show zG p l e { frames := 0, cells := 0, slots := 0, locals := 0 } s m args below meth c (MQ below (zQ D cA base h hE (some (.int rE))) args s 0 0 (zA base)) 5 D cA base h 54 [(0, .ref (base + r0)), (1, .ref (base + r1)), (3, .int x3_54), (4, .int x4_54)] [] h_54
    refine g_iload X 3 dX3_keepPlace_54 rfl ?_
    refine g_aload_n X 1 dX3_keepPlace_56 rfl ?_
    obtain ⟨hk7, hf⟩ := zite hf
    refine g_get X zf0 hk7 3 (by decide) w_f_RX3_32 rfl rfl dX3_keepPlace_57 ?_
    refine g_icmp_ge X 79 dX3_keepPlace_60 (by decide) (fun hq => ?_) (fun hq => ?_)
    · have hf := zpos hq hf
      cases hf
      have hc1 := hc1 (by decide)
      exact g_sub [1, 2] rfl hc1
    · have hf := zneg hq hf
      refine g_iload_n X 2 dX3_keepPlace_63 rfl ?_
      refine g_aload_n X 0 dX3_keepPlace_64 rfl ?_
      obtain ⟨hk8, hf⟩ := zite hf
      obtain ⟨r_9, hr_9, hf⟩ := zbd hf
      refine g_get X zf3 hk8 0 (by decide) w_f_RX3_9 rfl (zfv_r hr_9 rfl) dX3_keepPlace_65 ?_
      refine g_iload X 3 dX3_keepPlace_68 rfl ?_
      obtain ⟨hk10, hf⟩ := zite hf
      obtain ⟨hi11, hf⟩ := zite hf
      refine g_iald X hk10 hi11 dX3_keepPlace_70 ?_
      refine g_iadd X dX3_keepPlace_71 ?_
      refine g_topi (fun y12 ey12 => ?_)
      have hf := zlet_n ey12 hf
      refine g_istore_n X [(3, .int y12), (0, .ref (base + r0)), (1, .ref (base + r1)), (4, .int x4_54)] dX3_keepPlace_72 (by decide) rfl ?_
      obtain ⟨y13, ey13⟩ : ∃ y : Int32, y = x4_54 + (1 : Int32) := ⟨_, rfl⟩
      have hf := zlet_n ey13 hf
      refine g_iinc X (j := 3) [(4, .int y13), (3, .int y12), (0, .ref (base + r0)), (1, .ref (base + r1))] dX3_keepPlace_73 rfl (by rw [ey13]; rfl) (by decide) rfl ?_
      refine g_goto X 54 dX3_keepPlace_76 (by decide) ?_
      cases hf
      exact g_sub [2, 3, 1, 0] rfl (hc0 rfl)
  · obtain ⟨ee, x3_k54, x4_k54, h_k54⟩ := qq
    have hf : kX3_keepPlace_54 h r1 ee x3_k54 x4_k54 h_k54 = some (rE, hE) := hf
    unfold kX3_keepPlace_54 at hf
    show zG p l e { frames := 0, cells := 0, slots := 0, locals := 0 } s m args below meth c (MQ below (zQ D cA base h hE (some (.int rE))) args s 0 0 (zA base)) 5 D cA base h 79 [(1, .ref (base + r1)), (3, .int x3_k54)] [] h_k54
    refine g_iload_n X 1 dX3_keepPlace_79 rfl ?_
    refine g_aload_n X 0 dX3_keepPlace_80 rfl ?_
    obtain ⟨hk14, hf⟩ := zite hf
    refine g_get X zf0 hk14 3 (by decide) w_f_RX3_32 rfl rfl dX3_keepPlace_81 ?_
    obtain ⟨hn15, hf⟩ := zite hf
    refine g_irem X hn15 dX3_keepPlace_84 ?_
    obtain ⟨rfl, rfl⟩ := zsm hf
    exact g_iret X hr dX3_keepPlace_85

set_option maxHeartbeats 4000000 in
set_option maxRecDepth 100000 in
theorem sX3_showOthers {l : Launch} {D : va_G} {cA : Nat → ClassId} {base : Nat} {sA : Nat → Nat} {r0 : Nat} {r1 : Nat} {x2 : Int32} {x3 : Int32} {h hE : Zh} {rE : Int32} (hf : fX3_showOthers r0 r1 x2 x3 h = some (rE, hE)) : zC l yX3_showOthers cX3_showOthers 8 (some .int) 1 21 D cA base sA [.ref (base + r0), .ref (base + r1), .int x2, .int x3] h (some (.int rE)) hE := by
  refine g_entry RX3 (by decide) rfl (Nat.le_of_ble_eq_true rfl) ?_
  intro p e s m args below meth c X hr
  unfold fX3_showOthers at hf
  have hf := zlet_n (x := h) rfl hf
  show zG p l e { frames := 1, cells := 0, slots := 0, locals := 21 } s m args below meth c (MQ below (zQ D cA base h hE (some (.int rE))) args s 0 0 (zA base)) 8 D cA base h 0 [(0, .ref (base + r0)), (1, .ref (base + r1)), (2, .int x2), (3, .int x3)] [] h
  refine g_iconst X (v := 0) dX3_showOthers_0 (by decide) ?_
  refine g_istore X [(4, .int ((0 : Int32))), (0, .ref (base + r0)), (1, .ref (base + r1)), (2, .int x2), (3, .int x3)] dX3_showOthers_1 (by decide) rfl ?_
  refine g_iconst X (v := 0) dX3_showOthers_3 (by decide) ?_
  refine g_istore X [(5, .int ((0 : Int32))), (4, .int ((0 : Int32))), (0, .ref (base + r0)), (1, .ref (base + r1)), (2, .int x2), (3, .int x3)] dX3_showOthers_4 (by decide) rfl ?_
  refine g_iconst X (v := 0) dX3_showOthers_6 (by decide) ?_
  refine g_istore X [(6, .int ((0 : Int32))), (5, .int ((0 : Int32))), (4, .int ((0 : Int32))), (0, .ref (base + r0)), (1, .ref (base + r1)), (2, .int x2), (3, .int x3)] dX3_showOthers_7 (by decide) rfl ?_
  refine g_sub [3, 4, 5, 6, 2, 1, 0] rfl ?_
  obtain ⟨qq, hlp, hf⟩ := zbd hf
  refine lp_snd (body := (fun q : Int32 × Int32 × Int32 × Zh => bX3_showOthers_9 h r0 r1 x2 x3 q.1 q.2.1 q.2.2.1 q.2.2.2)) (P := (fun q : Int32 × Int32 × Int32 × Zh => zG p l e { frames := 1, cells := 0, slots := 0, locals := 21 } s m args below meth c (MQ below (zQ D cA base h hE (some (.int rE))) args s 0 0 (zA base)) 8 D cA base h 9 [(0, .ref (base + r0)), (1, .ref (base + r1)), (2, .int x2), (3, .int x3), (4, .int q.1), (5, .int q.2.1), (6, .int q.2.2.1)] [] q.2.2.2)) (E := (fun (en : Nat) (q : Int32 × Int32 × Int32 × Zh) => zG p l e { frames := 1, cells := 0, slots := 0, locals := 21 } s m args below meth c (MQ below (zQ D cA base h hE (some (.int rE))) args s 0 0 (zA base)) 8 D cA base h 62 [(4, .int q.1)] [] q.2.2.2)) ?_ zB ((0 : Int32), ((0 : Int32), ((0 : Int32), h))) qq.1 qq.2 hlp ?_
  · intro q e_9 q_9 hf hc0 hc1
    obtain ⟨x4_9, x5_9, x6_9, h_9⟩ := q
    have hf : bX3_showOthers_9 h r0 r1 x2 x3 x4_9 x5_9 x6_9 h_9 = some (e_9, q_9) := hf
    unfold bX3_showOthers_9 at hf
    show zG p l e { frames := 1, cells := 0, slots := 0, locals := 21 } s m args below meth c (MQ below (zQ D cA base h hE (some (.int rE))) args s 0 0 (zA base)) 8 D cA base h 9 [(0, .ref (base + r0)), (1, .ref (base + r1)), (2, .int x2), (3, .int x3), (4, .int x4_9), (5, .int x5_9), (6, .int x6_9)] [] h_9
    refine g_iload X 6 dX3_showOthers_9 rfl ?_
    refine g_aload_n X 1 dX3_showOthers_11 rfl ?_
    obtain ⟨hk1, hf⟩ := zite hf
    refine g_get X zf0 hk1 3 (by decide) w_f_RX3_32 rfl rfl dX3_showOthers_12 ?_
    refine g_icmp_ge X 62 dX3_showOthers_15 (by decide) (fun hq => ?_) (fun hq => ?_)
    · have hf := zpos hq hf
      cases hf
      have hc1 := hc1 (by decide)
      exact g_sub [4] rfl hc1
    · have hf := zneg hq hf
      refine g_iload_n X 2 dX3_showOthers_18 rfl ?_
      refine g_iload X 6 dX3_showOthers_19 rfl ?_
      obtain ⟨v3, h2, hch2, hf⟩ := zc2_e hf
      refine g_callS X 2 (sX0_cardAt hch2) ysX0_cardAt w_ml_RX3_58 w_static_X0_cardAt w_ini_RX0 w_code_X0_cardAt (by decide) rfl (st := []) rfl rfl (Nat.le_of_ble_eq_true rfl) dX3_showOthers_21 ?_
      refine g_istore X [(7, .int v3), (0, .ref (base + r0)), (1, .ref (base + r1)), (2, .int x2), (3, .int x3), (4, .int x4_9), (5, .int x5_9), (6, .int x6_9)] dX3_showOthers_24 (by decide) rfl ?_
      refine g_iload_n X 4 dX3_showOthers_26 rfl ?_
      refine g_iload X 0 dX3_showOthers_27 rfl ?_
      refine g_ishr X dX3_showOthers_29 ?_
      refine g_iconst X (v := 1) dX3_showOthers_30 (by decide) ?_
      refine g_iand X dX3_showOthers_31 ?_
      refine g_if_ne X 56 dX3_showOthers_32 (by decide) (fun hq => ?_) (fun hq => ?_)
      · have hf := zneg hq hf
        obtain ⟨y4, ey4⟩ : ∃ y : Int32, y = x6_9 + (1 : Int32) := ⟨_, rfl⟩
        have hf := zlet_n ey4 hf
        refine g_iinc X (j := 7) [(6, .int y4), (7, .int v3), (0, .ref (base + r0)), (1, .ref (base + r1)), (2, .int x2), (3, .int x3), (4, .int x4_9), (5, .int x5_9)] dX3_showOthers_56 rfl (by rw [ey4]; rfl) (by decide) rfl ?_
        refine g_goto X 9 dX3_showOthers_59 (by decide) ?_
        cases hf
        exact g_sub [2, 3, 4, 5, 6, 7, 0] rfl (hc0 rfl)
      · have hf := zpos hq hf
        refine g_aload_n X 1 dX3_showOthers_35 rfl ?_
        obtain ⟨hk5, hf⟩ := zite hf
        obtain ⟨r_6, hr_6, hf⟩ := zbd hf
        refine g_get X zf3 hk5 1 (by decide) w_f_RX3_15 rfl (zfv_r hr_6 rfl) dX3_showOthers_36 ?_
        refine g_iload X 6 dX3_showOthers_39 rfl ?_
        refine g_iload X 0 dX3_showOthers_41 rfl ?_
        obtain ⟨hk7, hf⟩ := zite hf
        obtain ⟨hi8, hf⟩ := zite hf
        refine g_iast X hk7 hi8 dX3_showOthers_43 ?_
        refine g_hp (fun h9 eh9 => ?_)
        have hf := zlet_n eh9 hf
        obtain ⟨y10, ey10⟩ : ∃ y : Int32, y = x5_9 + (1 : Int32) := ⟨_, rfl⟩
        have hf := zlet_n ey10 hf
        refine g_iinc X (j := 6) [(5, .int y10), (7, .int v3), (0, .ref (base + r0)), (1, .ref (base + r1)), (2, .int x2), (3, .int x3), (4, .int x4_9), (6, .int x6_9)] dX3_showOthers_44 rfl (by rw [ey10]; rfl) (by decide) rfl ?_
        refine g_iload X 6 dX3_showOthers_47 rfl ?_
        refine g_iconst X (v := 1) dX3_showOthers_49 (by decide) ?_
        refine g_iload X 1 dX3_showOthers_50 rfl ?_
        refine g_ishl X dX3_showOthers_52 ?_
        refine g_ior X dX3_showOthers_53 ?_
        refine g_topi (fun y11 ey11 => ?_)
        have hf := zlet_n ey11 hf
        refine g_istore X [(4, .int y11), (5, .int y10), (7, .int v3), (0, .ref (base + r0)), (1, .ref (base + r1)), (2, .int x2), (3, .int x3), (6, .int x6_9)] dX3_showOthers_54 (by decide) rfl ?_
        obtain ⟨y12, ey12⟩ : ∃ y : Int32, y = x6_9 + (1 : Int32) := ⟨_, rfl⟩
        have hf := zlet_n ey12 hf
        refine g_iinc X (j := 7) [(6, .int y12), (4, .int y11), (5, .int y10), (7, .int v3), (0, .ref (base + r0)), (1, .ref (base + r1)), (2, .int x2), (3, .int x3)] dX3_showOthers_56 rfl (by rw [ey12]; rfl) (by decide) rfl ?_
        refine g_goto X 9 dX3_showOthers_59 (by decide) ?_
        cases hf
        exact g_sub [4, 5, 6, 7, 1, 2, 0] rfl (hc0 rfl)
  · obtain ⟨ee, x4_k9, x5_k9, x6_k9, h_k9⟩ := qq
    have hf : kX3_showOthers_9 h ee x4_k9 x5_k9 x6_k9 h_k9 = some (rE, hE) := hf
    unfold kX3_showOthers_9 at hf
    show zG p l e { frames := 1, cells := 0, slots := 0, locals := 21 } s m args below meth c (MQ below (zQ D cA base h hE (some (.int rE))) args s 0 0 (zA base)) 8 D cA base h 62 [(4, .int x4_k9)] [] h_k9
    refine g_iload X 0 dX3_showOthers_62 rfl ?_
    obtain ⟨rfl, rfl⟩ := zsm hf
    exact g_iret X hr dX3_showOthers_64

