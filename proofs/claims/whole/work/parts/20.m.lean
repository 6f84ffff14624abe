/-! FifthCardModel isPicked -/
def bX12_isPicked_2 (g : Zh) (r0 : Nat) (x1 : Int32) (x2 : Int32) (x3 : Int32) (h : Zh) : Option (Nat × Int32 × Zh) :=
  if x2 ≤ x3 then some (2, (x3, h)) else if zK g r0 = 12 then (zR h r0 18).bind fun r_2 => if zK g r_2 = 100 then if zin x3 (zL g r_2) then if (zI h r_2 x3.toNatClampNeg) = x1 then some (1, (x3, h)) else zlet (x3 + (1 : Int32)) fun y5 => some (0, (y5, h)) else none else none else none
def kX12_isPicked_2 (g : Zh)  (e : Nat) (x3 : Int32) (h : Zh) : Option (Int32 × Zh) :=
  if e = 1 then some ((1 : Int32), h) else some ((0 : Int32), h)
def fX12_isPicked (r0 : Nat) (x1 : Int32) (x2 : Int32) (h : Zh) : Option (Int32 × Zh) := zlet h fun g =>
  (lp (fun q : Int32 × Zh => bX12_isPicked_2 g r0 x1 x2 q.1 q.2) zB ((0 : Int32), h)).bind fun q => kX12_isPicked_2 g q.1 q.2.1 q.2.2
/-! FifthCardModel next -/
def bX12_next_46 (g : Zh) (r0 : Nat) (x1 : Int32) (x2 : Int32) (h : Zh) : Option (Nat × Int32 × Zh) :=
  (zR h r0 3).bind fun r_8 => if zK g r_8 = 11 then if (zI h r_8 0) ≤ x2 then some (1, (x2, h)) else zc2 (fX12_isPicked r0 x2 x1 h) fun v11 h10 => if v11 = 0 then some (1, (x2, h10)) else zlet (x2 + (1 : Int32)) fun y12 => some (0, (y12, h10)) else none
def kX12_next_46 (g : Zh) (r0 : Nat) (e : Nat) (x2 : Int32) (h : Zh) : Option (Int32 × Zh) :=
  (zR h r0 3).bind fun r_13 => if zK g r_13 = 11 then if (zI h r_13 0) ≤ x2 then (zR h r0 3).bind fun r_15 => if zK g r_15 = 11 then some (zI h r_15 0, h) else none else some (x2, h) else none
def jX12_next_46 (g : Zh) (r0 : Nat) (x1 : Int32) (x2 : Int32) (h : Zh) : Option (Int32 × Zh) :=
  (lp (fun q : Int32 × Zh => bX12_next_46 g r0 x1 q.1 q.2) zB (x2, h)).bind fun q => kX12_next_46 g r0 q.1 q.2.1 q.2.2
def fX12_next (r0 : Nat) (x1 : Int32) (h : Zh) : Option (Int32 × Zh) := zlet h fun g =>
  if zK g r0 = 12 then (zR h r0 18).bind fun r_2 => if zK g r_2 = 100 then if zin x1 (zL g r_2) then zlet ((zI h r_2 x1.toNatClampNeg) + ((1 : Int32))) fun y5 => (zR h r0 3).bind fun r_6 => if zK g r_6 = 11 then if (zI h r_6 7) = 0 then if x1 ≤ 0 then jX12_next_46 g r0 x1 y5 h else (zR h r0 18).bind fun r_17 => if zK g r_17 = 100 then if zin (x1 - ((1 : Int32))) (zL g r_17) then if (zI h r_17 (x1 - ((1 : Int32))).toNatClampNeg) < y5 then jX12_next_46 g r0 x1 y5 h else (zR h r0 18).bind fun r_20 => if zK g r_20 = 100 then if zin (x1 - ((1 : Int32))) (zL g r_20) then zlet ((zI h r_20 (x1 - ((1 : Int32))).toNatClampNeg) + ((1 : Int32))) fun y23 => jX12_next_46 g r0 x1 y23 h else none else none else none else none else jX12_next_46 g r0 x1 y5 h else none else none else none else none
/-! FifthCardModel deals -/
def bX12_deals_7 (g : Zh) (r0 : Nat) (x1 : Int32) (h : Zh) : Option (Nat × Int32 × Zh) :=
  if ((5 : Int32)) ≤ x1 then some (1, (x1, h)) else (zR h r0 18).bind fun r_3 => if zK g r_3 = 100 then if zin x1 (zL g r_3) then zlet (zsI h r_3 x1.toNatClampNeg ((-1 : Int32))) fun h6 => zlet (x1 + (1 : Int32)) fun y7 => some (0, (y7, h6)) else none else none
def bX12_deals_86 (g : Zh) (r0 : Nat) (x2 : Int32) (h : Zh) : Option (Nat × Int32 × Zh) :=
  (zR h r0 3).bind fun r_22 => if zK g r_22 = 11 then if (zI h r_22 2) ≤ x2 then some (1, (x2, h)) else (zR h r0 16).bind fun r_24 => (zR h r0 18).bind fun r_25 => if zK g r_25 = 100 then if zin x2 (zL g r_25) then if zK g r_24 = 101 then if zin ((((5 : Int32)) * (zI h r0 17)) + x2) (zL g r_24) then zlet (zsI h r_24 ((((5 : Int32)) * (zI h r0 17)) + x2).toNatClampNeg ((zI h r_25 x2.toNatClampNeg).toInt8.toInt32).toInt8.toInt32) fun h30 => zlet (x2 + (1 : Int32)) fun y31 => some (0, (y31, h30)) else none else none else none else none else none
def kX12_deals_86 (g : Zh) (r0 : Nat) (x1 : Int32) (e : Nat) (x2 : Int32) (h : Zh) : Option (Nat × Int32 × Zh) :=
  zlet (zsI h r0 17 ((zI h r0 17) + ((1 : Int32)))) fun h32 => some (0, (x1, h32))
def bX12_deals_27 (g : Zh) (r0 : Nat) (x1 : Int32) (h : Zh) : Option (Nat × Int32 × Zh) :=
  if x1 < 0 then some (1, (x1, h)) else (zR h r0 18).bind fun r_8 => zc2 (fX12_next r0 x1 h) fun v10 h9 => if zK g r_8 = 100 then if zin x1 (zL g r_8) then zlet (zsI h9 r_8 x1.toNatClampNeg v10) fun h13 => (zR h13 r0 18).bind fun r_14 => if zK g r_14 = 100 then if zin x1 (zL g r_14) then (zR h13 r0 3).bind fun r_17 => if zK g r_17 = 11 then if (zI h13 r_14 x1.toNatClampNeg) = (zI h13 r_17 0) then (zR h13 r0 18).bind fun r_33 => if zK g r_33 = 100 then if zin x1 (zL g r_33) then zlet (zsI h13 r_33 x1.toNatClampNeg ((-1 : Int32))) fun h36 => zlet (x1 + (-1 : Int32)) fun y37 => some (0, (y37, h36)) else none else none else (zR h13 r0 3).bind fun r_19 => if zK g r_19 = 11 then if x1 = ((zI h13 r_19 2) - ((1 : Int32))) then (lp (fun q : Int32 × Zh => bX12_deals_86 g r0 q.1 q.2) zB ((0 : Int32), h13)).bind fun q => kX12_deals_86 g r0 x1 q.1 q.2.1 q.2.2 else zlet (x1 + (1 : Int32)) fun y21 => some (0, (y21, h13)) else none else none else none else none else none else none
def kX12_deals_27 (g : Zh)  (e : Nat) (x1 : Int32) (h : Zh) : Option Zh :=
  some h
def kX12_deals_7 (g : Zh) (r0 : Nat) (e : Nat) (x1 : Int32) (h : Zh) : Option Zh :=
  (lp (fun q : Int32 × Zh => bX12_deals_27 g r0 q.1 q.2) zB ((0 : Int32), h)).bind fun q => kX12_deals_27 g q.1 q.2.1 q.2.2
def fX12_deals (r0 : Nat) (h : Zh) : Option Zh := zlet h fun g =>
  if zK g r0 = 12 then zlet (zsI h r0 17 ((0 : Int32))) fun h2 => (lp (fun q : Int32 × Zh => bX12_deals_7 g r0 q.1 q.2) zB ((0 : Int32), h2)).bind fun q => kX12_deals_7 g r0 q.1 q.2.1 q.2.2 else none
/-! FifthCardModel cardOf -/
def fX12_cardOf (r0 : Nat) (x1 : Int32) (x2 : Int32) (h : Zh) : Option (Int32 × Zh) := zlet h fun g =>
  if zK g r0 = 12 then (zR h r0 16).bind fun r_2 => if zK g r_2 = 101 then if zin ((((5 : Int32)) * x1) + x2) (zL g r_2) then some (zI h r_2 ((((5 : Int32)) * x1) + x2).toNatClampNeg, h) else none else none else none
/-! FifthCardModel has -/
def bX12_has_2 (g : Zh) (r0 : Nat) (x1 : Int32) (x2 : Int32) (x3 : Int32) (h : Zh) : Option (Nat × Int32 × Zh) :=
  if zK g r0 = 12 then (zR h r0 3).bind fun r_2 => if zK g r_2 = 11 then if (zI h r_2 2) ≤ x3 then some (2, (x3, h)) else zc2 (fX12_cardOf r0 x1 x3 h) fun v5 h4 => if v5 = x2 then some (1, (x3, h4)) else zlet (x3 + (1 : Int32)) fun y6 => some (0, (y6, h4)) else none else none
def kX12_has_2 (g : Zh)  (e : Nat) (x3 : Int32) (h : Zh) : Option (Int32 × Zh) :=
  if e = 1 then some ((1 : Int32), h) else some ((0 : Int32), h)
def fX12_has (r0 : Nat) (x1 : Int32) (x2 : Int32) (h : Zh) : Option (Int32 × Zh) := zlet h fun g =>
  (lp (fun q : Int32 × Zh => bX12_has_2 g r0 x1 x2 q.1 q.2) zB ((0 : Int32), h)).bind fun q => kX12_has_2 g q.1 q.2.1 q.2.2
/-! FifthCardModel handNumber -/
def bX12_handNumber_16 (g : Zh) (r0 : Nat) (r1 : Nat) (x2 : Int32) (x3 : Int32) (x4 : Int32) (x5 : Int32) (h : Zh) : Option (Nat × Int32 × Int32 × Zh) :=
  (zR h r0 3).bind fun r_2 => if zK g r_2 = 11 then if (zI h r_2 2) ≤ x5 then some (1, (x4, (x5, h))) else if x4 = 0 then zlet (x5 + (1 : Int32)) fun y4 => some (0, ((0 : Int32), (y4, h))) else (zR h r0 3).bind fun r_5 => if zK g r_5 = 11 then if (zI h r_5 7) = 0 then if zK g r1 = 100 then if zin (x2 + x5) (zL g r1) then zc2 (fX12_has r0 x3 (zI h r1 (x2 + x5).toNatClampNeg) h) fun v10 h9 => if v10 = 0 then zlet (x5 + (1 : Int32)) fun y11 => some (0, ((0 : Int32), (y11, h9))) else zlet (x5 + (1 : Int32)) fun y12 => some (0, ((1 : Int32), (y12, h9))) else none else none else zc2 (fX12_cardOf r0 x3 x5 h) fun v14 h13 => if zK g r1 = 100 then if zin (x2 + x5) (zL g r1) then if v14 = (zI h13 r1 (x2 + x5).toNatClampNeg) then zlet (x5 + (1 : Int32)) fun y18 => some (0, ((1 : Int32), (y18, h13))) else zlet (x5 + (1 : Int32)) fun y17 => some (0, ((0 : Int32), (y17, h13))) else none else none else none else none
def kX12_handNumber_16 (g : Zh) (r0 : Nat) (r1 : Nat) (x2 : Int32) (x3 : Int32) (e : Nat) (x4 : Int32) (x5 : Int32) (h : Zh) : Option (Nat × Int32 × Zh) :=
  if x4 = 0 then zlet (x3 + (1 : Int32)) fun y19 => some (0, (y19, h)) else some (1, (x3, h))
def bX12_handNumber_2 (g : Zh) (r0 : Nat) (r1 : Nat) (x2 : Int32) (x3 : Int32) (h : Zh) : Option (Nat × Int32 × Zh) :=
  if zK g r0 = 12 then if (zI h r0 17) ≤ x3 then some (2, (x3, h)) else (lp (fun q : Int32 × Int32 × Zh => bX12_handNumber_16 g r0 r1 x2 x3 q.1 q.2.1 q.2.2) zB ((1 : Int32), ((0 : Int32), h))).bind fun q => kX12_handNumber_16 g r0 r1 x2 x3 q.1 q.2.1 q.2.2.1 q.2.2.2 else none
def kX12_handNumber_2 (g : Zh)  (e : Nat) (x3 : Int32) (h : Zh) : Option (Int32 × Zh) :=
  if e = 1 then some (x3, h) else some ((-1 : Int32), h)
def fX12_handNumber (r0 : Nat) (r1 : Nat) (x2 : Int32) (h : Zh) : Option (Int32 × Zh) := zlet h fun g =>
  (lp (fun q : Int32 × Zh => bX12_handNumber_2 g r0 r1 x2 q.1 q.2) zB ((0 : Int32), h)).bind fun q => kX12_handNumber_2 g q.1 q.2.1 q.2.2
/-! FifthCardModel rowNumber -/
def bX12_rowNumber_28 (g : Zh) (r1 : Nat) (x2 : Int32) (x4 : Int32) (x5 : Int32) (x6 : Int32) (h : Zh) : Option (Nat × Int32 × Int32 × Zh) :=
  if x4 ≤ x6 then some (1, (x5, (x6, h))) else if zin (x2 + x6) (zL g r1) then if zin (x2 + x4) (zL g r1) then if (zI h r1 (x2 + x4).toNatClampNeg) ≤ (zI h r1 (x2 + x6).toNatClampNeg) then zlet (x5 - ((0 : Int32))) fun y9 => zlet (x6 + (1 : Int32)) fun y10 => some (0, (y9, (y10, h))) else zlet (x5 - ((1 : Int32))) fun y11 => zlet (x6 + (1 : Int32)) fun y12 => some (0, (y11, (y12, h))) else none else none
def kX12_rowNumber_28 (g : Zh) (r0 : Nat) (r1 : Nat) (x2 : Int32) (x3 : Int32) (x4 : Int32) (e : Nat) (x5 : Int32) (x6 : Int32) (h : Zh) : Option (Nat × Int32 × Int32 × Zh) :=
  (zR h r0 3).bind fun r_13 => if zK g r_13 = 11 then zlet ((x3 * ((zI h r_13 0) - x4)) + x5) fun y15 => zlet (x4 + (1 : Int32)) fun y16 => some (0, (y15, (y16, h))) else none
def bX12_rowNumber_5 (g : Zh) (r0 : Nat) (r1 : Nat) (x2 : Int32) (x3 : Int32) (x4 : Int32) (h : Zh) : Option (Nat × Int32 × Int32 × Zh) :=
  if zK g r0 = 12 then (zR h r0 3).bind fun r_2 => if zK g r_2 = 11 then if (zI h r_2 4) ≤ x4 then some (1, (x3, (x4, h))) else if zK g r1 = 100 then if zin (x2 + x4) (zL g r1) then zlet (zI h r1 (x2 + x4).toNatClampNeg) fun y6 => (lp (fun q : Int32 × Int32 × Zh => bX12_rowNumber_28 g r1 x2 x4 q.1 q.2.1 q.2.2) zB (y6, ((0 : Int32), h))).bind fun q => kX12_rowNumber_28 g r0 r1 x2 x3 x4 q.1 q.2.1 q.2.2.1 q.2.2.2 else none else none else none else none
def kX12_rowNumber_5 (g : Zh)  (e : Nat) (x3 : Int32) (x4 : Int32) (h : Zh) : Option (Int32 × Zh) :=
  some (x3, h)
def fX12_rowNumber (r0 : Nat) (r1 : Nat) (x2 : Int32) (h : Zh) : Option (Int32 × Zh) := zlet h fun g =>
  (lp (fun q : Int32 × Int32 × Zh => bX12_rowNumber_5 g r0 r1 x2 q.1 q.2.1 q.2.2) zB ((0 : Int32), ((0 : Int32), h))).bind fun q => kX12_rowNumber_5 g q.1 q.2.1 q.2.2.1 q.2.2.2
/-! FifthCardModel rowCards -/
def bX12_rowCards_27 (g : Zh) (r0 : Nat) (r4 : Nat) (x3 : Int32) (x5 : Int32) (h : Zh) : Option (Nat × Int32 × Int32 × Zh) :=
  if x5 < 0 then some (1, (x3, (x5, h))) else (zR h r0 3).bind fun r_12 => if zK g r_12 = 11 then if ¬ ((zI h r_12 0) - x5) = 0 then if zK g r4 = 100 then if zin x5 (zL g r4) then zlet (zsI h r4 x5.toNatClampNeg (zrem x3 ((zI h r_12 0) - x5))) fun h17 => (zR h17 r0 3).bind fun r_18 => if zK g r_18 = 11 then if ¬ ((zI h17 r_18 0) - x5) = 0 then zlet (x3 / ((zI h17 r_18 0) - x5)) fun y21 => zlet (x5 + (-1 : Int32)) fun y22 => some (0, (y21, (y22, h17))) else none else none else none else none else none else none
def jX12_rowCards_112 (g : Zh) (x5 : Int32) (x7 : Int32) (x8 : Int32) (h : Zh) : Option (Nat × Int32 × Int32 × Zh) :=
  if ((x5 >>> (x7 &&& 31)) &&& ((1 : Int32))) = 0 then zlet (x8 + (-1 : Int32)) fun y29 => zlet (x7 + (1 : Int32)) fun y30 => some (0, (y30, (y29, h))) else zlet (x7 + (1 : Int32)) fun y28 => some (0, (y28, (x8, h)))
def bX12_rowCards_96 (g : Zh) (x5 : Int32) (x7 : Int32) (x8 : Int32) (h : Zh) : Option (Nat × Int32 × Int32 × Zh) :=
  if ((x5 >>> (x7 &&& 31)) &&& ((1 : Int32))) = ((1 : Int32)) then jX12_rowCards_112 g x5 x7 x8 h else if x8 ≤ 0 then some (1, (x7, (x8, h))) else jX12_rowCards_112 g x5 x7 x8 h
def kX12_rowCards_96 (g : Zh) (r0 : Nat) (r2 : Nat) (r4 : Nat) (x5 : Int32) (x6 : Int32) (e : Nat) (x7 : Int32) (x8 : Int32) (h : Zh) : Option (Nat × Int32 × Int32 × Zh) :=
  zlet (x5 ||| (((1 : Int32)) <<< (x7 &&& 31))) fun y31 => if zK g r2 = 100 then if zin x6 (zL g r2) then zlet (zsI h r2 x6.toNatClampNeg x7) fun h34 => zlet (x6 + (1 : Int32)) fun y35 => some (0, (y31, (y35, h34))) else none else none
def bX12_rowCards_74 (g : Zh) (r0 : Nat) (r2 : Nat) (r4 : Nat) (x5 : Int32) (x6 : Int32) (h : Zh) : Option (Nat × Int32 × Int32 × Zh) :=
  (zR h r0 3).bind fun r_23 => if zK g r_23 = 11 then if (zI h r_23 4) ≤ x6 then some (1, (x5, (x6, h))) else if zK g r4 = 100 then if zin x6 (zL g r4) then zlet (zI h r4 x6.toNatClampNeg) fun y27 => (lp (fun q : Int32 × Int32 × Zh => bX12_rowCards_96 g x5 q.1 q.2.1 q.2.2) zB ((0 : Int32), (y27, h))).bind fun q => kX12_rowCards_96 g r0 r2 r4 x5 x6 q.1 q.2.1 q.2.2.1 q.2.2.2 else none else none else none
def kX12_rowCards_74 (g : Zh)  (e : Nat) (x5 : Int32) (x6 : Int32) (h : Zh) : Option Zh :=
  some h
def kX12_rowCards_27 (g : Zh) (r0 : Nat) (r2 : Nat) (r4 : Nat) (e : Nat) (x3 : Int32) (x5 : Int32) (h : Zh) : Option Zh :=
  (lp (fun q : Int32 × Int32 × Zh => bX12_rowCards_74 g r0 r2 r4 q.1 q.2.1 q.2.2) zB ((0 : Int32), ((0 : Int32), h))).bind fun q => kX12_rowCards_74 g q.1 q.2.1 q.2.2.1 q.2.2.2
def fX12_rowCards (r0 : Nat) (x1 : Int32) (r2 : Nat) (h : Zh) : Option Zh := zlet h fun g =>
  if zK g r0 = 12 then (zR h r0 3).bind fun r_2 => if zK g r_2 = 11 then zc2 (fX11_tilts r_2 h) fun v5 h4 => if ¬ v5 = 0 then zlet (x1 / v5) fun y7 => (zR h4 r0 20).bind fun r_8 => (zR h4 r0 3).bind fun r_9 => if zK g r_9 = 11 then zlet ((zI h4 r_9 4) - ((1 : Int32))) fun y11 => (lp (fun q : Int32 × Int32 × Zh => bX12_rowCards_27 g r0 r_8 q.1 q.2.1 q.2.2) zB (y7, (y11, h4))).bind fun q => kX12_rowCards_27 g r0 r2 r_8 q.1 q.2.1 q.2.2.1 q.2.2.2 else none else none else none else none
/-! FifthCardModel rowMany -/
def fX12_rowMany (r0 : Nat) (h : Zh) : Option (Int32 × Zh) := zlet h fun g =>
  if zK g r0 = 12 then (zR h r0 3).bind fun r_2 => if zK g r_2 = 11 then (zR h r0 3).bind fun r_4 => if zK g r_4 = 11 then zc2 (fX12_rowsOf (zI h r_2 0) (zI h r_4 4) h) fun v7 h6 => (zR h6 r0 3).bind fun r_8 => if zK g r_8 = 11 then zc2 (fX11_tilts r_8 h6) fun v11 h10 => some (v7.toInt32 * v11, h10) else none else none else none else none
/-! FifthCardModel isHand -/
def fX12_isHand (r0 : Nat) (x1 : Int32) (h : Zh) : Option (Int32 × Zh) := zlet h fun g =>
  if zK g r0 = 12 then if (zR h r0 3).isSome = true then if x1 < 0 then some ((0 : Int32), h) else if (zI h r0 17) ≤ x1 then some ((0 : Int32), h) else some ((1 : Int32), h) else some ((0 : Int32), h) else none
/-! FifthCardModel isRow -/
def fX12_isRow (r0 : Nat) (x1 : Int32) (h : Zh) : Option (Int32 × Zh) := zlet h fun g =>
  if zK g r0 = 12 then if (zR h r0 3).isSome = true then if x1 < 0 then some ((0 : Int32), h) else zc2 (fX12_rowMany r0 h) fun v3 h2 => if v3 ≤ x1 then some ((0 : Int32), h2) else some ((1 : Int32), h2) else some ((0 : Int32), h) else none
theorem dX12_isPicked_0 : decode cX12_isPicked 0 = .ok (.iconst 0, 1) := by decide +kernel
theorem dX12_isPicked_1 : decode cX12_isPicked 1 = .ok (.istore_n 3, 1) := by decide +kernel
theorem dX12_isPicked_2 : decode cX12_isPicked 2 = .ok (.iload_n 3, 1) := by decide +kernel
theorem dX12_isPicked_3 : decode cX12_isPicked 3 = .ok (.iload_n 2, 1) := by decide +kernel
theorem dX12_isPicked_4 : decode cX12_isPicked 4 = .ok (.if_icmp .ge 21, 3) := by decide +kernel
theorem dX12_isPicked_7 : decode cX12_isPicked 7 = .ok (.aload_n 0, 1) := by decide +kernel
theorem dX12_isPicked_8 : decode cX12_isPicked 8 = .ok (.getfield 20, 3) := by decide +kernel
theorem dX12_isPicked_11 : decode cX12_isPicked 11 = .ok (.iload_n 3, 1) := by decide +kernel
theorem dX12_isPicked_12 : decode cX12_isPicked 12 = .ok (.iaload, 1) := by decide +kernel
theorem dX12_isPicked_13 : decode cX12_isPicked 13 = .ok (.iload_n 1, 1) := by decide +kernel
theorem dX12_isPicked_14 : decode cX12_isPicked 14 = .ok (.if_icmp .ne 5, 3) := by decide +kernel
theorem dX12_isPicked_17 : decode cX12_isPicked 17 = .ok (.iconst 1, 1) := by decide +kernel
theorem dX12_isPicked_18 : decode cX12_isPicked 18 = .ok (.ireturn, 1) := by decide +kernel
theorem dX12_isPicked_19 : decode cX12_isPicked 19 = .ok (.iinc 3 1, 3) := by decide +kernel
theorem dX12_isPicked_22 : decode cX12_isPicked 22 = .ok (.goto (-20), 3) := by decide +kernel
theorem dX12_isPicked_25 : decode cX12_isPicked 25 = .ok (.iconst 0, 1) := by decide +kernel
theorem dX12_isPicked_26 : decode cX12_isPicked 26 = .ok (.ireturn, 1) := by decide +kernel
theorem dX12_next_0 : decode cX12_next 0 = .ok (.aload_n 0, 1) := by decide +kernel
theorem dX12_next_1 : decode cX12_next 1 = .ok (.getfield 20, 3) := by decide +kernel
theorem dX12_next_4 : decode cX12_next 4 = .ok (.iload_n 1, 1) := by decide +kernel
theorem dX12_next_5 : decode cX12_next 5 = .ok (.iaload, 1) := by decide +kernel
theorem dX12_next_6 : decode cX12_next 6 = .ok (.iconst 1, 1) := by decide +kernel
theorem dX12_next_7 : decode cX12_next 7 = .ok (.iadd, 1) := by decide +kernel
theorem dX12_next_8 : decode cX12_next 8 = .ok (.istore_n 2, 1) := by decide +kernel
theorem dX12_next_9 : decode cX12_next 9 = .ok (.aload_n 0, 1) := by decide +kernel
theorem dX12_next_10 : decode cX12_next 10 = .ok (.getfield 329, 3) := by decide +kernel
theorem dX12_next_13 : decode cX12_next 13 = .ok (.getfield 228, 3) := by decide +kernel
theorem dX12_next_16 : decode cX12_next 16 = .ok (.ifCond .ne 30, 3) := by decide +kernel
theorem dX12_next_19 : decode cX12_next 19 = .ok (.iload_n 1, 1) := by decide +kernel
theorem dX12_next_20 : decode cX12_next 20 = .ok (.ifCond .le 26, 3) := by decide +kernel
theorem dX12_next_23 : decode cX12_next 23 = .ok (.iload_n 2, 1) := by decide +kernel
theorem dX12_next_24 : decode cX12_next 24 = .ok (.aload_n 0, 1) := by decide +kernel
theorem dX12_next_25 : decode cX12_next 25 = .ok (.getfield 20, 3) := by decide +kernel
theorem dX12_next_28 : decode cX12_next 28 = .ok (.iload_n 1, 1) := by decide +kernel
theorem dX12_next_29 : decode cX12_next 29 = .ok (.iconst 1, 1) := by decide +kernel
theorem dX12_next_30 : decode cX12_next 30 = .ok (.isub, 1) := by decide +kernel
theorem dX12_next_31 : decode cX12_next 31 = .ok (.iaload, 1) := by decide +kernel
theorem dX12_next_32 : decode cX12_next 32 = .ok (.if_icmp .gt 14, 3) := by decide +kernel
theorem dX12_next_35 : decode cX12_next 35 = .ok (.aload_n 0, 1) := by decide +kernel
theorem dX12_next_36 : decode cX12_next 36 = .ok (.getfield 20, 3) := by decide +kernel
theorem dX12_next_39 : decode cX12_next 39 = .ok (.iload_n 1, 1) := by decide +kernel
theorem dX12_next_40 : decode cX12_next 40 = .ok (.iconst 1, 1) := by decide +kernel
theorem dX12_next_41 : decode cX12_next 41 = .ok (.isub, 1) := by decide +kernel
theorem dX12_next_42 : decode cX12_next 42 = .ok (.iaload, 1) := by decide +kernel
theorem dX12_next_43 : decode cX12_next 43 = .ok (.iconst 1, 1) := by decide +kernel
theorem dX12_next_44 : decode cX12_next 44 = .ok (.iadd, 1) := by decide +kernel
theorem dX12_next_45 : decode cX12_next 45 = .ok (.istore_n 2, 1) := by decide +kernel
theorem dX12_next_46 : decode cX12_next 46 = .ok (.iload_n 2, 1) := by decide +kernel
theorem dX12_next_47 : decode cX12_next 47 = .ok (.aload_n 0, 1) := by decide +kernel
theorem dX12_next_48 : decode cX12_next 48 = .ok (.getfield 329, 3) := by decide +kernel
theorem dX12_next_51 : decode cX12_next 51 = .ok (.getfield 194, 3) := by decide +kernel
theorem dX12_next_54 : decode cX12_next 54 = .ok (.if_icmp .ge 18, 3) := by decide +kernel
theorem dX12_next_57 : decode cX12_next 57 = .ok (.aload_n 0, 1) := by decide +kernel
theorem dX12_next_58 : decode cX12_next 58 = .ok (.iload_n 2, 1) := by decide +kernel
theorem dX12_next_59 : decode cX12_next 59 = .ok (.iload_n 1, 1) := by decide +kernel
theorem dX12_next_60 : decode cX12_next 60 = .ok (.invokevirtual 362, 3) := by decide +kernel
theorem dX12_next_63 : decode cX12_next 63 = .ok (.ifCond .eq 9, 3) := by decide +kernel
theorem dX12_next_66 : decode cX12_next 66 = .ok (.iinc 2 1, 3) := by decide +kernel
theorem dX12_next_69 : decode cX12_next 69 = .ok (.goto (-23), 3) := by decide +kernel
theorem dX12_next_72 : decode cX12_next 72 = .ok (.iload_n 2, 1) := by decide +kernel
theorem dX12_next_73 : decode cX12_next 73 = .ok (.aload_n 0, 1) := by decide +kernel
theorem dX12_next_74 : decode cX12_next 74 = .ok (.getfield 329, 3) := by decide +kernel
theorem dX12_next_77 : decode cX12_next 77 = .ok (.getfield 194, 3) := by decide +kernel
theorem dX12_next_80 : decode cX12_next 80 = .ok (.if_icmp .ge 7, 3) := by decide +kernel
theorem dX12_next_83 : decode cX12_next 83 = .ok (.iload_n 2, 1) := by decide +kernel
theorem dX12_next_84 : decode cX12_next 84 = .ok (.goto 10, 3) := by decide +kernel
theorem dX12_next_87 : decode cX12_next 87 = .ok (.aload_n 0, 1) := by decide +kernel
theorem dX12_next_88 : decode cX12_next 88 = .ok (.getfield 329, 3) := by decide +kernel
theorem dX12_next_91 : decode cX12_next 91 = .ok (.getfield 194, 3) := by decide +kernel
theorem dX12_next_94 : decode cX12_next 94 = .ok (.ireturn, 1) := by decide +kernel
theorem dX12_deals_0 : decode cX12_deals 0 = .ok (.aload_n 0, 1) := by decide +kernel
theorem dX12_deals_1 : decode cX12_deals 1 = .ok (.iconst 0, 1) := by decide +kernel
theorem dX12_deals_2 : decode cX12_deals 2 = .ok (.putfield 356, 3) := by decide +kernel
theorem dX12_deals_5 : decode cX12_deals 5 = .ok (.iconst 0, 1) := by decide +kernel
theorem dX12_deals_6 : decode cX12_deals 6 = .ok (.istore_n 1, 1) := by decide +kernel
theorem dX12_deals_7 : decode cX12_deals 7 = .ok (.iload_n 1, 1) := by decide +kernel
theorem dX12_deals_8 : decode cX12_deals 8 = .ok (.iconst 5, 1) := by decide +kernel
theorem dX12_deals_9 : decode cX12_deals 9 = .ok (.if_icmp .ge 16, 3) := by decide +kernel
theorem dX12_deals_12 : decode cX12_deals 12 = .ok (.aload_n 0, 1) := by decide +kernel
theorem dX12_deals_13 : decode cX12_deals 13 = .ok (.getfield 20, 3) := by decide +kernel
theorem dX12_deals_16 : decode cX12_deals 16 = .ok (.iload_n 1, 1) := by decide +kernel
theorem dX12_deals_17 : decode cX12_deals 17 = .ok (.iconst (-1), 1) := by decide +kernel
theorem dX12_deals_18 : decode cX12_deals 18 = .ok (.iastore, 1) := by decide +kernel
theorem dX12_deals_19 : decode cX12_deals 19 = .ok (.iinc 1 1, 3) := by decide +kernel
theorem dX12_deals_22 : decode cX12_deals 22 = .ok (.goto (-15), 3) := by decide +kernel
theorem dX12_deals_25 : decode cX12_deals 25 = .ok (.iconst 0, 1) := by decide +kernel
theorem dX12_deals_26 : decode cX12_deals 26 = .ok (.istore_n 1, 1) := by decide +kernel
theorem dX12_deals_27 : decode cX12_deals 27 = .ok (.iload_n 1, 1) := by decide +kernel
theorem dX12_deals_28 : decode cX12_deals 28 = .ok (.ifCond .lt 114, 3) := by decide +kernel
theorem dX12_deals_31 : decode cX12_deals 31 = .ok (.aload_n 0, 1) := by decide +kernel
theorem dX12_deals_32 : decode cX12_deals 32 = .ok (.getfield 20, 3) := by decide +kernel
theorem dX12_deals_35 : decode cX12_deals 35 = .ok (.iload_n 1, 1) := by decide +kernel
theorem dX12_deals_36 : decode cX12_deals 36 = .ok (.aload_n 0, 1) := by decide +kernel
theorem dX12_deals_37 : decode cX12_deals 37 = .ok (.iload_n 1, 1) := by decide +kernel
theorem dX12_deals_38 : decode cX12_deals 38 = .ok (.invokevirtual 359, 3) := by decide +kernel
theorem dX12_deals_41 : decode cX12_deals 41 = .ok (.iastore, 1) := by decide +kernel
theorem dX12_deals_42 : decode cX12_deals 42 = .ok (.aload_n 0, 1) := by decide +kernel
theorem dX12_deals_43 : decode cX12_deals 43 = .ok (.getfield 20, 3) := by decide +kernel
theorem dX12_deals_46 : decode cX12_deals 46 = .ok (.iload_n 1, 1) := by decide +kernel
theorem dX12_deals_47 : decode cX12_deals 47 = .ok (.iaload, 1) := by decide +kernel
theorem dX12_deals_48 : decode cX12_deals 48 = .ok (.aload_n 0, 1) := by decide +kernel
theorem dX12_deals_49 : decode cX12_deals 49 = .ok (.getfield 329, 3) := by decide +kernel
theorem dX12_deals_52 : decode cX12_deals 52 = .ok (.getfield 194, 3) := by decide +kernel
theorem dX12_deals_55 : decode cX12_deals 55 = .ok (.if_icmp .ne 16, 3) := by decide +kernel
theorem dX12_deals_58 : decode cX12_deals 58 = .ok (.aload_n 0, 1) := by decide +kernel
theorem dX12_deals_59 : decode cX12_deals 59 = .ok (.getfield 20, 3) := by decide +kernel
theorem dX12_deals_62 : decode cX12_deals 62 = .ok (.iload_n 1, 1) := by decide +kernel
theorem dX12_deals_63 : decode cX12_deals 63 = .ok (.iconst (-1), 1) := by decide +kernel
theorem dX12_deals_64 : decode cX12_deals 64 = .ok (.iastore, 1) := by decide +kernel
theorem dX12_deals_65 : decode cX12_deals 65 = .ok (.iinc 1 (-1), 3) := by decide +kernel
theorem dX12_deals_68 : decode cX12_deals 68 = .ok (.goto (-41), 3) := by decide +kernel
theorem dX12_deals_71 : decode cX12_deals 71 = .ok (.iload_n 1, 1) := by decide +kernel
theorem dX12_deals_72 : decode cX12_deals 72 = .ok (.aload_n 0, 1) := by decide +kernel
theorem dX12_deals_73 : decode cX12_deals 73 = .ok (.getfield 329, 3) := by decide +kernel
theorem dX12_deals_76 : decode cX12_deals 76 = .ok (.getfield 232, 3) := by decide +kernel
theorem dX12_deals_79 : decode cX12_deals 79 = .ok (.iconst 1, 1) := by decide +kernel
theorem dX12_deals_80 : decode cX12_deals 80 = .ok (.isub, 1) := by decide +kernel
theorem dX12_deals_81 : decode cX12_deals 81 = .ok (.if_icmp .ne 55, 3) := by decide +kernel
theorem dX12_deals_84 : decode cX12_deals 84 = .ok (.iconst 0, 1) := by decide +kernel
theorem dX12_deals_85 : decode cX12_deals 85 = .ok (.istore_n 2, 1) := by decide +kernel
theorem dX12_deals_86 : decode cX12_deals 86 = .ok (.iload_n 2, 1) := by decide +kernel
theorem dX12_deals_87 : decode cX12_deals 87 = .ok (.aload_n 0, 1) := by decide +kernel
theorem dX12_deals_88 : decode cX12_deals 88 = .ok (.getfield 329, 3) := by decide +kernel
theorem dX12_deals_91 : decode cX12_deals 91 = .ok (.getfield 232, 3) := by decide +kernel
theorem dX12_deals_94 : decode cX12_deals 94 = .ok (.if_icmp .ge 29, 3) := by decide +kernel
theorem dX12_deals_97 : decode cX12_deals 97 = .ok (.aload_n 0, 1) := by decide +kernel
theorem dX12_deals_98 : decode cX12_deals 98 = .ok (.getfield 17, 3) := by decide +kernel
theorem dX12_deals_101 : decode cX12_deals 101 = .ok (.iconst 5, 1) := by decide +kernel
theorem dX12_deals_102 : decode cX12_deals 102 = .ok (.aload_n 0, 1) := by decide +kernel
theorem dX12_deals_103 : decode cX12_deals 103 = .ok (.getfield 356, 3) := by decide +kernel
theorem dX12_deals_106 : decode cX12_deals 106 = .ok (.imul, 1) := by decide +kernel
theorem dX12_deals_107 : decode cX12_deals 107 = .ok (.iload_n 2, 1) := by decide +kernel
theorem dX12_deals_108 : decode cX12_deals 108 = .ok (.iadd, 1) := by decide +kernel
theorem dX12_deals_109 : decode cX12_deals 109 = .ok (.aload_n 0, 1) := by decide +kernel
theorem dX12_deals_110 : decode cX12_deals 110 = .ok (.getfield 20, 3) := by decide +kernel
theorem dX12_deals_113 : decode cX12_deals 113 = .ok (.iload_n 2, 1) := by decide +kernel
theorem dX12_deals_114 : decode cX12_deals 114 = .ok (.iaload, 1) := by decide +kernel
theorem dX12_deals_115 : decode cX12_deals 115 = .ok (.i2b, 1) := by decide +kernel
theorem dX12_deals_116 : decode cX12_deals 116 = .ok (.bastore, 1) := by decide +kernel
theorem dX12_deals_117 : decode cX12_deals 117 = .ok (.iinc 2 1, 3) := by decide +kernel
theorem dX12_deals_120 : decode cX12_deals 120 = .ok (.goto (-34), 3) := by decide +kernel
theorem dX12_deals_123 : decode cX12_deals 123 = .ok (.aload_n 0, 1) := by decide +kernel
theorem dX12_deals_124 : decode cX12_deals 124 = .ok (.dup, 1) := by decide +kernel
theorem dX12_deals_125 : decode cX12_deals 125 = .ok (.getfield 356, 3) := by decide +kernel
theorem dX12_deals_128 : decode cX12_deals 128 = .ok (.iconst 1, 1) := by decide +kernel
theorem dX12_deals_129 : decode cX12_deals 129 = .ok (.iadd, 1) := by decide +kernel
theorem dX12_deals_130 : decode cX12_deals 130 = .ok (.putfield 356, 3) := by decide +kernel
theorem dX12_deals_133 : decode cX12_deals 133 = .ok (.goto (-106), 3) := by decide +kernel
theorem dX12_deals_136 : decode cX12_deals 136 = .ok (.iinc 1 1, 3) := by decide +kernel
theorem dX12_deals_139 : decode cX12_deals 139 = .ok (.goto (-112), 3) := by decide +kernel
theorem dX12_deals_142 : decode cX12_deals 142 = .ok (.return_, 1) := by decide +kernel
theorem dX12_cardOf_0 : decode cX12_cardOf 0 = .ok (.aload_n 0, 1) := by decide +kernel
theorem dX12_cardOf_1 : decode cX12_cardOf 1 = .ok (.getfield 17, 3) := by decide +kernel
theorem dX12_cardOf_4 : decode cX12_cardOf 4 = .ok (.iconst 5, 1) := by decide +kernel
theorem dX12_cardOf_5 : decode cX12_cardOf 5 = .ok (.iload_n 1, 1) := by decide +kernel
theorem dX12_cardOf_6 : decode cX12_cardOf 6 = .ok (.imul, 1) := by decide +kernel
theorem dX12_cardOf_7 : decode cX12_cardOf 7 = .ok (.iload_n 2, 1) := by decide +kernel
theorem dX12_cardOf_8 : decode cX12_cardOf 8 = .ok (.iadd, 1) := by decide +kernel
theorem dX12_cardOf_9 : decode cX12_cardOf 9 = .ok (.baload, 1) := by decide +kernel
theorem dX12_cardOf_10 : decode cX12_cardOf 10 = .ok (.ireturn, 1) := by decide +kernel
theorem dX12_has_0 : decode cX12_has 0 = .ok (.iconst 0, 1) := by decide +kernel
theorem dX12_has_1 : decode cX12_has 1 = .ok (.istore_n 3, 1) := by decide +kernel
theorem dX12_has_2 : decode cX12_has 2 = .ok (.iload_n 3, 1) := by decide +kernel
theorem dX12_has_3 : decode cX12_has 3 = .ok (.aload_n 0, 1) := by decide +kernel
theorem dX12_has_4 : decode cX12_has 4 = .ok (.getfield 329, 3) := by decide +kernel
theorem dX12_has_7 : decode cX12_has 7 = .ok (.getfield 232, 3) := by decide +kernel
theorem dX12_has_10 : decode cX12_has 10 = .ok (.if_icmp .ge 21, 3) := by decide +kernel
theorem dX12_has_13 : decode cX12_has 13 = .ok (.aload_n 0, 1) := by decide +kernel
theorem dX12_has_14 : decode cX12_has 14 = .ok (.iload_n 1, 1) := by decide +kernel
theorem dX12_has_15 : decode cX12_has 15 = .ok (.iload_n 3, 1) := by decide +kernel
theorem dX12_has_16 : decode cX12_has 16 = .ok (.invokevirtual 366, 3) := by decide +kernel
theorem dX12_has_19 : decode cX12_has 19 = .ok (.iload_n 2, 1) := by decide +kernel
theorem dX12_has_20 : decode cX12_has 20 = .ok (.if_icmp .ne 5, 3) := by decide +kernel
theorem dX12_has_23 : decode cX12_has 23 = .ok (.iconst 1, 1) := by decide +kernel
theorem dX12_has_24 : decode cX12_has 24 = .ok (.ireturn, 1) := by decide +kernel
theorem dX12_has_25 : decode cX12_has 25 = .ok (.iinc 3 1, 3) := by decide +kernel
theorem dX12_has_28 : decode cX12_has 28 = .ok (.goto (-26), 3) := by decide +kernel
theorem dX12_has_31 : decode cX12_has 31 = .ok (.iconst 0, 1) := by decide +kernel
theorem dX12_has_32 : decode cX12_has 32 = .ok (.ireturn, 1) := by decide +kernel
theorem dX12_handNumber_0 : decode cX12_handNumber 0 = .ok (.iconst 0, 1) := by decide +kernel
theorem dX12_handNumber_1 : decode cX12_handNumber 1 = .ok (.istore_n 3, 1) := by decide +kernel
theorem dX12_handNumber_2 : decode cX12_handNumber 2 = .ok (.iload_n 3, 1) := by decide +kernel
theorem dX12_handNumber_3 : decode cX12_handNumber 3 = .ok (.aload_n 0, 1) := by decide +kernel
theorem dX12_handNumber_4 : decode cX12_handNumber 4 = .ok (.getfield 356, 3) := by decide +kernel
theorem dX12_handNumber_7 : decode cX12_handNumber 7 = .ok (.if_icmp .ge 95, 3) := by decide +kernel
theorem dX12_handNumber_10 : decode cX12_handNumber 10 = .ok (.iconst 1, 1) := by decide +kernel
theorem dX12_handNumber_11 : decode cX12_handNumber 11 = .ok (.istore 4, 2) := by decide +kernel
theorem dX12_handNumber_13 : decode cX12_handNumber 13 = .ok (.iconst 0, 1) := by decide +kernel
theorem dX12_handNumber_14 : decode cX12_handNumber 14 = .ok (.istore 5, 2) := by decide +kernel
theorem dX12_handNumber_16 : decode cX12_handNumber 16 = .ok (.iload 5, 2) := by decide +kernel
theorem dX12_handNumber_18 : decode cX12_handNumber 18 = .ok (.aload_n 0, 1) := by decide +kernel
theorem dX12_handNumber_19 : decode cX12_handNumber 19 = .ok (.getfield 329, 3) := by decide +kernel
theorem dX12_handNumber_22 : decode cX12_handNumber 22 = .ok (.getfield 232, 3) := by decide +kernel
theorem dX12_handNumber_25 : decode cX12_handNumber 25 = .ok (.if_icmp .ge 64, 3) := by decide +kernel
theorem dX12_handNumber_28 : decode cX12_handNumber 28 = .ok (.iload 4, 2) := by decide +kernel
theorem dX12_handNumber_30 : decode cX12_handNumber 30 = .ok (.ifCond .eq 50, 3) := by decide +kernel
theorem dX12_handNumber_33 : decode cX12_handNumber 33 = .ok (.aload_n 0, 1) := by decide +kernel
theorem dX12_handNumber_34 : decode cX12_handNumber 34 = .ok (.getfield 329, 3) := by decide +kernel
theorem dX12_handNumber_37 : decode cX12_handNumber 37 = .ok (.getfield 228, 3) := by decide +kernel
theorem dX12_handNumber_40 : decode cX12_handNumber 40 = .ok (.ifCond .eq 22, 3) := by decide +kernel
theorem dX12_handNumber_43 : decode cX12_handNumber 43 = .ok (.aload_n 0, 1) := by decide +kernel
theorem dX12_handNumber_44 : decode cX12_handNumber 44 = .ok (.iload_n 3, 1) := by decide +kernel
theorem dX12_handNumber_45 : decode cX12_handNumber 45 = .ok (.iload 5, 2) := by decide +kernel
theorem dX12_handNumber_47 : decode cX12_handNumber 47 = .ok (.invokevirtual 366, 3) := by decide +kernel
theorem dX12_handNumber_50 : decode cX12_handNumber 50 = .ok (.aload_n 1, 1) := by decide +kernel
theorem dX12_handNumber_51 : decode cX12_handNumber 51 = .ok (.iload_n 2, 1) := by decide +kernel
theorem dX12_handNumber_52 : decode cX12_handNumber 52 = .ok (.iload 5, 2) := by decide +kernel
theorem dX12_handNumber_54 : decode cX12_handNumber 54 = .ok (.iadd, 1) := by decide +kernel
theorem dX12_handNumber_55 : decode cX12_handNumber 55 = .ok (.iaload, 1) := by decide +kernel
theorem dX12_handNumber_56 : decode cX12_handNumber 56 = .ok (.if_icmp .ne 24, 3) := by decide +kernel
theorem dX12_handNumber_59 : decode cX12_handNumber 59 = .ok (.goto 17, 3) := by decide +kernel
theorem dX12_handNumber_62 : decode cX12_handNumber 62 = .ok (.aload_n 0, 1) := by decide +kernel
theorem dX12_handNumber_63 : decode cX12_handNumber 63 = .ok (.iload_n 3, 1) := by decide +kernel
theorem dX12_handNumber_64 : decode cX12_handNumber 64 = .ok (.aload_n 1, 1) := by decide +kernel
theorem dX12_handNumber_65 : decode cX12_handNumber 65 = .ok (.iload_n 2, 1) := by decide +kernel
theorem dX12_handNumber_66 : decode cX12_handNumber 66 = .ok (.iload 5, 2) := by decide +kernel
theorem dX12_handNumber_68 : decode cX12_handNumber 68 = .ok (.iadd, 1) := by decide +kernel
theorem dX12_handNumber_69 : decode cX12_handNumber 69 = .ok (.iaload, 1) := by decide +kernel
theorem dX12_handNumber_70 : decode cX12_handNumber 70 = .ok (.invokevirtual 369, 3) := by decide +kernel
theorem dX12_handNumber_73 : decode cX12_handNumber 73 = .ok (.ifCond .eq 7, 3) := by decide +kernel
theorem dX12_handNumber_76 : decode cX12_handNumber 76 = .ok (.iconst 1, 1) := by decide +kernel
theorem dX12_handNumber_77 : decode cX12_handNumber 77 = .ok (.goto 4, 3) := by decide +kernel
theorem dX12_handNumber_80 : decode cX12_handNumber 80 = .ok (.iconst 0, 1) := by decide +kernel
theorem dX12_handNumber_81 : decode cX12_handNumber 81 = .ok (.istore 4, 2) := by decide +kernel
theorem dX12_handNumber_83 : decode cX12_handNumber 83 = .ok (.iinc 5 1, 3) := by decide +kernel
theorem dX12_handNumber_86 : decode cX12_handNumber 86 = .ok (.goto (-70), 3) := by decide +kernel
theorem dX12_handNumber_89 : decode cX12_handNumber 89 = .ok (.iload 4, 2) := by decide +kernel
theorem dX12_handNumber_91 : decode cX12_handNumber 91 = .ok (.ifCond .eq 5, 3) := by decide +kernel
theorem dX12_handNumber_94 : decode cX12_handNumber 94 = .ok (.iload_n 3, 1) := by decide +kernel
theorem dX12_handNumber_95 : decode cX12_handNumber 95 = .ok (.ireturn, 1) := by decide +kernel
theorem dX12_handNumber_96 : decode cX12_handNumber 96 = .ok (.iinc 3 1, 3) := by decide +kernel
theorem dX12_handNumber_99 : decode cX12_handNumber 99 = .ok (.goto (-97), 3) := by decide +kernel
theorem dX12_handNumber_102 : decode cX12_handNumber 102 = .ok (.iconst (-1), 1) := by decide +kernel
theorem dX12_handNumber_103 : decode cX12_handNumber 103 = .ok (.ireturn, 1) := by decide +kernel
theorem dX12_rowNumber_0 : decode cX12_rowNumber 0 = .ok (.iconst 0, 1) := by decide +kernel
theorem dX12_rowNumber_1 : decode cX12_rowNumber 1 = .ok (.istore_n 3, 1) := by decide +kernel
theorem dX12_rowNumber_2 : decode cX12_rowNumber 2 = .ok (.iconst 0, 1) := by decide +kernel
theorem dX12_rowNumber_3 : decode cX12_rowNumber 3 = .ok (.istore 4, 2) := by decide +kernel
theorem dX12_rowNumber_5 : decode cX12_rowNumber 5 = .ok (.iload 4, 2) := by decide +kernel
theorem dX12_rowNumber_7 : decode cX12_rowNumber 7 = .ok (.aload_n 0, 1) := by decide +kernel
theorem dX12_rowNumber_8 : decode cX12_rowNumber 8 = .ok (.getfield 329, 3) := by decide +kernel
theorem dX12_rowNumber_11 : decode cX12_rowNumber 11 = .ok (.getfield 257, 3) := by decide +kernel
theorem dX12_rowNumber_14 : decode cX12_rowNumber 14 = .ok (.if_icmp .ge 74, 3) := by decide +kernel
theorem dX12_rowNumber_17 : decode cX12_rowNumber 17 = .ok (.aload_n 1, 1) := by decide +kernel
theorem dX12_rowNumber_18 : decode cX12_rowNumber 18 = .ok (.iload_n 2, 1) := by decide +kernel
theorem dX12_rowNumber_19 : decode cX12_rowNumber 19 = .ok (.iload 4, 2) := by decide +kernel
theorem dX12_rowNumber_21 : decode cX12_rowNumber 21 = .ok (.iadd, 1) := by decide +kernel
theorem dX12_rowNumber_22 : decode cX12_rowNumber 22 = .ok (.iaload, 1) := by decide +kernel
theorem dX12_rowNumber_23 : decode cX12_rowNumber 23 = .ok (.istore 5, 2) := by decide +kernel
theorem dX12_rowNumber_25 : decode cX12_rowNumber 25 = .ok (.iconst 0, 1) := by decide +kernel
theorem dX12_rowNumber_26 : decode cX12_rowNumber 26 = .ok (.istore 6, 2) := by decide +kernel
theorem dX12_rowNumber_28 : decode cX12_rowNumber 28 = .ok (.iload 6, 2) := by decide +kernel
theorem dX12_rowNumber_30 : decode cX12_rowNumber 30 = .ok (.iload 4, 2) := by decide +kernel
theorem dX12_rowNumber_32 : decode cX12_rowNumber 32 = .ok (.if_icmp .ge 34, 3) := by decide +kernel
theorem dX12_rowNumber_35 : decode cX12_rowNumber 35 = .ok (.iload 5, 2) := by decide +kernel
theorem dX12_rowNumber_37 : decode cX12_rowNumber 37 = .ok (.aload_n 1, 1) := by decide +kernel
theorem dX12_rowNumber_38 : decode cX12_rowNumber 38 = .ok (.iload_n 2, 1) := by decide +kernel
theorem dX12_rowNumber_39 : decode cX12_rowNumber 39 = .ok (.iload 6, 2) := by decide +kernel
theorem dX12_rowNumber_41 : decode cX12_rowNumber 41 = .ok (.iadd, 1) := by decide +kernel
theorem dX12_rowNumber_42 : decode cX12_rowNumber 42 = .ok (.iaload, 1) := by decide +kernel
theorem dX12_rowNumber_43 : decode cX12_rowNumber 43 = .ok (.aload_n 1, 1) := by decide +kernel
theorem dX12_rowNumber_44 : decode cX12_rowNumber 44 = .ok (.iload_n 2, 1) := by decide +kernel
theorem dX12_rowNumber_45 : decode cX12_rowNumber 45 = .ok (.iload 4, 2) := by decide +kernel
theorem dX12_rowNumber_47 : decode cX12_rowNumber 47 = .ok (.iadd, 1) := by decide +kernel
theorem dX12_rowNumber_48 : decode cX12_rowNumber 48 = .ok (.iaload, 1) := by decide +kernel
theorem dX12_rowNumber_49 : decode cX12_rowNumber 49 = .ok (.if_icmp .ge 7, 3) := by decide +kernel
theorem dX12_rowNumber_52 : decode cX12_rowNumber 52 = .ok (.iconst 1, 1) := by decide +kernel
theorem dX12_rowNumber_53 : decode cX12_rowNumber 53 = .ok (.goto 4, 3) := by decide +kernel
theorem dX12_rowNumber_56 : decode cX12_rowNumber 56 = .ok (.iconst 0, 1) := by decide +kernel
theorem dX12_rowNumber_57 : decode cX12_rowNumber 57 = .ok (.isub, 1) := by decide +kernel
theorem dX12_rowNumber_58 : decode cX12_rowNumber 58 = .ok (.istore 5, 2) := by decide +kernel
theorem dX12_rowNumber_60 : decode cX12_rowNumber 60 = .ok (.iinc 6 1, 3) := by decide +kernel
theorem dX12_rowNumber_63 : decode cX12_rowNumber 63 = .ok (.goto (-35), 3) := by decide +kernel
theorem dX12_rowNumber_66 : decode cX12_rowNumber 66 = .ok (.iload_n 3, 1) := by decide +kernel
theorem dX12_rowNumber_67 : decode cX12_rowNumber 67 = .ok (.aload_n 0, 1) := by decide +kernel
theorem dX12_rowNumber_68 : decode cX12_rowNumber 68 = .ok (.getfield 329, 3) := by decide +kernel
theorem dX12_rowNumber_71 : decode cX12_rowNumber 71 = .ok (.getfield 194, 3) := by decide +kernel
theorem dX12_rowNumber_74 : decode cX12_rowNumber 74 = .ok (.iload 4, 2) := by decide +kernel
theorem dX12_rowNumber_76 : decode cX12_rowNumber 76 = .ok (.isub, 1) := by decide +kernel
theorem dX12_rowNumber_77 : decode cX12_rowNumber 77 = .ok (.imul, 1) := by decide +kernel
theorem dX12_rowNumber_78 : decode cX12_rowNumber 78 = .ok (.iload 5, 2) := by decide +kernel
theorem dX12_rowNumber_80 : decode cX12_rowNumber 80 = .ok (.iadd, 1) := by decide +kernel
theorem dX12_rowNumber_81 : decode cX12_rowNumber 81 = .ok (.istore_n 3, 1) := by decide +kernel
theorem dX12_rowNumber_82 : decode cX12_rowNumber 82 = .ok (.iinc 4 1, 3) := by decide +kernel
theorem dX12_rowNumber_85 : decode cX12_rowNumber 85 = .ok (.goto (-80), 3) := by decide +kernel
theorem dX12_rowNumber_88 : decode cX12_rowNumber 88 = .ok (.iload_n 3, 1) := by decide +kernel
theorem dX12_rowNumber_89 : decode cX12_rowNumber 89 = .ok (.ireturn, 1) := by decide +kernel
theorem dX12_rowCards_0 : decode cX12_rowCards 0 = .ok (.iload_n 1, 1) := by decide +kernel
theorem dX12_rowCards_1 : decode cX12_rowCards 1 = .ok (.aload_n 0, 1) := by decide +kernel
theorem dX12_rowCards_2 : decode cX12_rowCards 2 = .ok (.getfield 329, 3) := by decide +kernel
theorem dX12_rowCards_5 : decode cX12_rowCards 5 = .ok (.invokevirtual 354, 3) := by decide +kernel
theorem dX12_rowCards_8 : decode cX12_rowCards 8 = .ok (.idiv, 1) := by decide +kernel
theorem dX12_rowCards_9 : decode cX12_rowCards 9 = .ok (.istore_n 3, 1) := by decide +kernel
theorem dX12_rowCards_10 : decode cX12_rowCards 10 = .ok (.aload_n 0, 1) := by decide +kernel
theorem dX12_rowCards_11 : decode cX12_rowCards 11 = .ok (.getfield 27, 3) := by decide +kernel
theorem dX12_rowCards_14 : decode cX12_rowCards 14 = .ok (.astore 4, 2) := by decide +kernel
theorem dX12_rowCards_16 : decode cX12_rowCards 16 = .ok (.aload_n 0, 1) := by decide +kernel
theorem dX12_rowCards_17 : decode cX12_rowCards 17 = .ok (.getfield 329, 3) := by decide +kernel
theorem dX12_rowCards_20 : decode cX12_rowCards 20 = .ok (.getfield 257, 3) := by decide +kernel
theorem dX12_rowCards_23 : decode cX12_rowCards 23 = .ok (.iconst 1, 1) := by decide +kernel
theorem dX12_rowCards_24 : decode cX12_rowCards 24 = .ok (.isub, 1) := by decide +kernel
theorem dX12_rowCards_25 : decode cX12_rowCards 25 = .ok (.istore 5, 2) := by decide +kernel
theorem dX12_rowCards_27 : decode cX12_rowCards 27 = .ok (.iload 5, 2) := by decide +kernel
theorem dX12_rowCards_29 : decode cX12_rowCards 29 = .ok (.ifCond .lt 39, 3) := by decide +kernel
theorem dX12_rowCards_32 : decode cX12_rowCards 32 = .ok (.aload 4, 2) := by decide +kernel
theorem dX12_rowCards_34 : decode cX12_rowCards 34 = .ok (.iload 5, 2) := by decide +kernel
theorem dX12_rowCards_36 : decode cX12_rowCards 36 = .ok (.iload_n 3, 1) := by decide +kernel
theorem dX12_rowCards_37 : decode cX12_rowCards 37 = .ok (.aload_n 0, 1) := by decide +kernel
theorem dX12_rowCards_38 : decode cX12_rowCards 38 = .ok (.getfield 329, 3) := by decide +kernel
theorem dX12_rowCards_41 : decode cX12_rowCards 41 = .ok (.getfield 194, 3) := by decide +kernel
theorem dX12_rowCards_44 : decode cX12_rowCards 44 = .ok (.iload 5, 2) := by decide +kernel
theorem dX12_rowCards_46 : decode cX12_rowCards 46 = .ok (.isub, 1) := by decide +kernel
theorem dX12_rowCards_47 : decode cX12_rowCards 47 = .ok (.irem, 1) := by decide +kernel
theorem dX12_rowCards_48 : decode cX12_rowCards 48 = .ok (.iastore, 1) := by decide +kernel
theorem dX12_rowCards_49 : decode cX12_rowCards 49 = .ok (.iload_n 3, 1) := by decide +kernel
theorem dX12_rowCards_50 : decode cX12_rowCards 50 = .ok (.aload_n 0, 1) := by decide +kernel
theorem dX12_rowCards_51 : decode cX12_rowCards 51 = .ok (.getfield 329, 3) := by decide +kernel
theorem dX12_rowCards_54 : decode cX12_rowCards 54 = .ok (.getfield 194, 3) := by decide +kernel
theorem dX12_rowCards_57 : decode cX12_rowCards 57 = .ok (.iload 5, 2) := by decide +kernel
theorem dX12_rowCards_59 : decode cX12_rowCards 59 = .ok (.isub, 1) := by decide +kernel
theorem dX12_rowCards_60 : decode cX12_rowCards 60 = .ok (.idiv, 1) := by decide +kernel
theorem dX12_rowCards_61 : decode cX12_rowCards 61 = .ok (.istore_n 3, 1) := by decide +kernel
theorem dX12_rowCards_62 : decode cX12_rowCards 62 = .ok (.iinc 5 (-1), 3) := by decide +kernel
theorem dX12_rowCards_65 : decode cX12_rowCards 65 = .ok (.goto (-38), 3) := by decide +kernel
theorem dX12_rowCards_68 : decode cX12_rowCards 68 = .ok (.iconst 0, 1) := by decide +kernel
theorem dX12_rowCards_69 : decode cX12_rowCards 69 = .ok (.istore 5, 2) := by decide +kernel
theorem dX12_rowCards_71 : decode cX12_rowCards 71 = .ok (.iconst 0, 1) := by decide +kernel
theorem dX12_rowCards_72 : decode cX12_rowCards 72 = .ok (.istore 6, 2) := by decide +kernel
theorem dX12_rowCards_74 : decode cX12_rowCards 74 = .ok (.iload 6, 2) := by decide +kernel
theorem dX12_rowCards_76 : decode cX12_rowCards 76 = .ok (.aload_n 0, 1) := by decide +kernel
theorem dX12_rowCards_77 : decode cX12_rowCards 77 = .ok (.getfield 329, 3) := by decide +kernel
theorem dX12_rowCards_80 : decode cX12_rowCards 80 = .ok (.getfield 257, 3) := by decide +kernel
theorem dX12_rowCards_83 : decode cX12_rowCards 83 = .ok (.if_icmp .ge 69, 3) := by decide +kernel
theorem dX12_rowCards_86 : decode cX12_rowCards 86 = .ok (.iconst 0, 1) := by decide +kernel
theorem dX12_rowCards_87 : decode cX12_rowCards 87 = .ok (.istore 7, 2) := by decide +kernel
theorem dX12_rowCards_89 : decode cX12_rowCards 89 = .ok (.aload 4, 2) := by decide +kernel
theorem dX12_rowCards_91 : decode cX12_rowCards 91 = .ok (.iload 6, 2) := by decide +kernel
theorem dX12_rowCards_93 : decode cX12_rowCards 93 = .ok (.iaload, 1) := by decide +kernel
theorem dX12_rowCards_94 : decode cX12_rowCards 94 = .ok (.istore 8, 2) := by decide +kernel
theorem dX12_rowCards_96 : decode cX12_rowCards 96 = .ok (.iload 5, 2) := by decide +kernel
theorem dX12_rowCards_98 : decode cX12_rowCards 98 = .ok (.iload 7, 2) := by decide +kernel
theorem dX12_rowCards_100 : decode cX12_rowCards 100 = .ok (.ishr, 1) := by decide +kernel
theorem dX12_rowCards_101 : decode cX12_rowCards 101 = .ok (.iconst 1, 1) := by decide +kernel
theorem dX12_rowCards_102 : decode cX12_rowCards 102 = .ok (.iand, 1) := by decide +kernel
theorem dX12_rowCards_103 : decode cX12_rowCards 103 = .ok (.iconst 1, 1) := by decide +kernel
theorem dX12_rowCards_104 : decode cX12_rowCards 104 = .ok (.if_icmp .eq 8, 3) := by decide +kernel
theorem dX12_rowCards_107 : decode cX12_rowCards 107 = .ok (.iload 8, 2) := by decide +kernel
theorem dX12_rowCards_109 : decode cX12_rowCards 109 = .ok (.ifCond .le 22, 3) := by decide +kernel
theorem dX12_rowCards_112 : decode cX12_rowCards 112 = .ok (.iload 5, 2) := by decide +kernel
theorem dX12_rowCards_114 : decode cX12_rowCards 114 = .ok (.iload 7, 2) := by decide +kernel
theorem dX12_rowCards_116 : decode cX12_rowCards 116 = .ok (.ishr, 1) := by decide +kernel
theorem dX12_rowCards_117 : decode cX12_rowCards 117 = .ok (.iconst 1, 1) := by decide +kernel
theorem dX12_rowCards_118 : decode cX12_rowCards 118 = .ok (.iand, 1) := by decide +kernel
theorem dX12_rowCards_119 : decode cX12_rowCards 119 = .ok (.ifCond .ne 6, 3) := by decide +kernel
theorem dX12_rowCards_122 : decode cX12_rowCards 122 = .ok (.iinc 8 (-1), 3) := by decide +kernel
theorem dX12_rowCards_125 : decode cX12_rowCards 125 = .ok (.iinc 7 1, 3) := by decide +kernel
theorem dX12_rowCards_128 : decode cX12_rowCards 128 = .ok (.goto (-32), 3) := by decide +kernel
theorem dX12_rowCards_131 : decode cX12_rowCards 131 = .ok (.iload 5, 2) := by decide +kernel
theorem dX12_rowCards_133 : decode cX12_rowCards 133 = .ok (.iconst 1, 1) := by decide +kernel
theorem dX12_rowCards_134 : decode cX12_rowCards 134 = .ok (.iload 7, 2) := by decide +kernel
theorem dX12_rowCards_136 : decode cX12_rowCards 136 = .ok (.ishl, 1) := by decide +kernel
theorem dX12_rowCards_137 : decode cX12_rowCards 137 = .ok (.ior, 1) := by decide +kernel
theorem dX12_rowCards_138 : decode cX12_rowCards 138 = .ok (.istore 5, 2) := by decide +kernel
theorem dX12_rowCards_140 : decode cX12_rowCards 140 = .ok (.aload_n 2, 1) := by decide +kernel
theorem dX12_rowCards_141 : decode cX12_rowCards 141 = .ok (.iload 6, 2) := by decide +kernel
theorem dX12_rowCards_143 : decode cX12_rowCards 143 = .ok (.iload 7, 2) := by decide +kernel
theorem dX12_rowCards_145 : decode cX12_rowCards 145 = .ok (.iastore, 1) := by decide +kernel
theorem dX12_rowCards_146 : decode cX12_rowCards 146 = .ok (.iinc 6 1, 3) := by decide +kernel
theorem dX12_rowCards_149 : decode cX12_rowCards 149 = .ok (.goto (-75), 3) := by decide +kernel
theorem dX12_rowCards_152 : decode cX12_rowCards 152 = .ok (.return_, 1) := by decide +kernel
theorem dX12_rowMany_0 : decode cX12_rowMany 0 = .ok (.aload_n 0, 1) := by decide +kernel
theorem dX12_rowMany_1 : decode cX12_rowMany 1 = .ok (.getfield 329, 3) := by decide +kernel
theorem dX12_rowMany_4 : decode cX12_rowMany 4 = .ok (.getfield 194, 3) := by decide +kernel
theorem dX12_rowMany_7 : decode cX12_rowMany 7 = .ok (.aload_n 0, 1) := by decide +kernel
theorem dX12_rowMany_8 : decode cX12_rowMany 8 = .ok (.getfield 329, 3) := by decide +kernel
theorem dX12_rowMany_11 : decode cX12_rowMany 11 = .ok (.getfield 257, 3) := by decide +kernel
theorem dX12_rowMany_14 : decode cX12_rowMany 14 = .ok (.invokestatic 99, 3) := by decide +kernel
theorem dX12_rowMany_17 : decode cX12_rowMany 17 = .ok (.l2i, 1) := by decide +kernel
theorem dX12_rowMany_18 : decode cX12_rowMany 18 = .ok (.aload_n 0, 1) := by decide +kernel
theorem dX12_rowMany_19 : decode cX12_rowMany 19 = .ok (.getfield 329, 3) := by decide +kernel
theorem dX12_rowMany_22 : decode cX12_rowMany 22 = .ok (.invokevirtual 354, 3) := by decide +kernel
theorem dX12_rowMany_25 : decode cX12_rowMany 25 = .ok (.imul, 1) := by decide +kernel
theorem dX12_rowMany_26 : decode cX12_rowMany 26 = .ok (.ireturn, 1) := by decide +kernel
theorem dX12_isHand_0 : decode cX12_isHand 0 = .ok (.aload_n 0, 1) := by decide +kernel
theorem dX12_isHand_1 : decode cX12_isHand 1 = .ok (.getfield 329, 3) := by decide +kernel
theorem dX12_isHand_4 : decode cX12_isHand 4 = .ok (.ifnull 19, 3) := by decide +kernel
theorem dX12_isHand_7 : decode cX12_isHand 7 = .ok (.iload_n 1, 1) := by decide +kernel
theorem dX12_isHand_8 : decode cX12_isHand 8 = .ok (.ifCond .lt 15, 3) := by decide +kernel
theorem dX12_isHand_11 : decode cX12_isHand 11 = .ok (.iload_n 1, 1) := by decide +kernel
theorem dX12_isHand_12 : decode cX12_isHand 12 = .ok (.aload_n 0, 1) := by decide +kernel
theorem dX12_isHand_13 : decode cX12_isHand 13 = .ok (.getfield 356, 3) := by decide +kernel
theorem dX12_isHand_16 : decode cX12_isHand 16 = .ok (.if_icmp .ge 7, 3) := by decide +kernel
theorem dX12_isHand_19 : decode cX12_isHand 19 = .ok (.iconst 1, 1) := by decide +kernel
theorem dX12_isHand_20 : decode cX12_isHand 20 = .ok (.goto 4, 3) := by decide +kernel
theorem dX12_isHand_23 : decode cX12_isHand 23 = .ok (.iconst 0, 1) := by decide +kernel
theorem dX12_isHand_24 : decode cX12_isHand 24 = .ok (.ireturn, 1) := by decide +kernel
theorem dX12_isRow_0 : decode cX12_isRow 0 = .ok (.aload_n 0, 1) := by decide +kernel
theorem dX12_isRow_1 : decode cX12_isRow 1 = .ok (.getfield 329, 3) := by decide +kernel
theorem dX12_isRow_4 : decode cX12_isRow 4 = .ok (.ifnull 19, 3) := by decide +kernel
theorem dX12_isRow_7 : decode cX12_isRow 7 = .ok (.iload_n 1, 1) := by decide +kernel
theorem dX12_isRow_8 : decode cX12_isRow 8 = .ok (.ifCond .lt 15, 3) := by decide +kernel
theorem dX12_isRow_11 : decode cX12_isRow 11 = .ok (.iload_n 1, 1) := by decide +kernel
theorem dX12_isRow_12 : decode cX12_isRow 12 = .ok (.aload_n 0, 1) := by decide +kernel
theorem dX12_isRow_13 : decode cX12_isRow 13 = .ok (.invokevirtual 372, 3) := by decide +kernel
theorem dX12_isRow_16 : decode cX12_isRow 16 = .ok (.if_icmp .ge 7, 3) := by decide +kernel
theorem dX12_isRow_19 : decode cX12_isRow 19 = .ok (.iconst 1, 1) := by decide +kernel
theorem dX12_isRow_20 : decode cX12_isRow 20 = .ok (.goto 4, 3) := by decide +kernel
theorem dX12_isRow_23 : decode cX12_isRow 23 = .ok (.iconst 0, 1) := by decide +kernel
theorem dX12_isRow_24 : decode cX12_isRow 24 = .ok (.ireturn, 1) := by decide +kernel
set_option maxHeartbeats 4000000 in
set_option maxRecDepth 100000 in
theorem sX12_isPicked {l : Launch} {D : va_G} {cA : Nat → ClassId} {base : Nat} {sA : Nat → Nat} {r0 : Nat} {x1 : Int32} {x2 : Int32} {h hE : Zh} {rE : Int32} (hf : fX12_isPicked r0 x1 x2 h = some (rE, hE)) : zC l yX12_isPicked cX12_isPicked 4 (some .boolean) 0 0 D cA base sA [.ref (base + r0), .int x1, .int x2] h (some (.int rE)) hE := by
  refine g_entry RX12 (by decide) rfl (Nat.le_of_ble_eq_true rfl) ?_
  intro p e s m args below meth c X hr
  unfold fX12_isPicked at hf
  have hf := zlet_n (x := h) rfl hf
  show zG p l e { frames := 0, cells := 0, slots := 0, locals := 0 } s m args below meth c (MQ below (zQ D cA base h hE (some (.int rE))) args s 0 0 (zA base)) 4 D cA base h 0 [(0, .ref (base + r0)), (1, .int x1), (2, .int x2)] [] h
  refine g_iconst X (v := 0) dX12_isPicked_0 (by decide) ?_
  refine g_istore_n X [(3, .int ((0 : Int32))), (0, .ref (base + r0)), (1, .int x1), (2, .int x2)] dX12_isPicked_1 (by decide) rfl ?_
  refine g_sub [1, 2, 3, 0] rfl ?_
  obtain ⟨qq, hlp, hf⟩ := zbd hf
  refine lp_snd (body := (fun q : Int32 × Zh => bX12_isPicked_2 h r0 x1 x2 q.1 q.2)) (P := (fun q : Int32 × Zh => zG p l e { frames := 0, cells := 0, slots := 0, locals := 0 } s m args below meth c (MQ below (zQ D cA base h hE (some (.int rE))) args s 0 0 (zA base)) 4 D cA base h 2 [(0, .ref (base + r0)), (1, .int x1), (2, .int x2), (3, .int q.1)] [] q.2)) (E := (fun (en : Nat) (q : Int32 × Zh) => if en = 1 then zG p l e { frames := 0, cells := 0, slots := 0, locals := 0 } s m args below meth c (MQ below (zQ D cA base h hE (some (.int rE))) args s 0 0 (zA base)) 4 D cA base h 17 [] [] q.2 else zG p l e { frames := 0, cells := 0, slots := 0, locals := 0 } s m args below meth c (MQ below (zQ D cA base h hE (some (.int rE))) args s 0 0 (zA base)) 4 D cA base h 25 [] [] q.2)) ?_ zB ((0 : Int32), h) qq.1 qq.2 hlp ?_
  · intro q e_2 q_2 hf hc0 hc1
    obtain ⟨x3_2, h_2⟩ := q
    have hf : bX12_isPicked_2 h r0 x1 x2 x3_2 h_2 = some (e_2, q_2) := hf
    unfold bX12_isPicked_2 at hf
    show zG p l e { frames := 0, cells := 0, slots := 0, locals := 0 } s m args below meth c (MQ below (zQ D cA base h hE (some (.int rE))) args s 0 0 (zA base)) 4 D cA base h 2 [(0, .ref (base + r0)), (1, .int x1), (2, .int x2), (3, .int x3_2)] [] h_2
    refine g_iload_n X 3 dX12_isPicked_2 rfl ?_
    refine g_iload_n X 2 dX12_isPicked_3 rfl ?_
    refine g_icmp_ge X 25 dX12_isPicked_4 (by decide) (fun hq => ?_) (fun hq => ?_)
    · have hf := zpos hq hf
      cases hf
      have hc1 := hc1 (by decide)
      exact g_sub [] rfl (zun_n (by decide) hc1)
    · have hf := zneg hq hf
      refine g_aload_n X 0 dX12_isPicked_7 rfl ?_
      obtain ⟨hk1, hf⟩ := zite hf
      obtain ⟨r_2, hr_2, hf⟩ := zbd hf
      refine g_get X zf12 hk1 18 (by decide) w_f_RX12_20 rfl (zfv_r hr_2 rfl) dX12_isPicked_8 ?_
      refine g_iload_n X 3 dX12_isPicked_11 rfl ?_
      obtain ⟨hk3, hf⟩ := zite hf
      obtain ⟨hi4, hf⟩ := zite hf
      refine g_iald X hk3 hi4 dX12_isPicked_12 ?_
      refine g_iload_n X 1 dX12_isPicked_13 rfl ?_
      refine g_icmp_ne X 19 dX12_isPicked_14 (by decide) (fun hq => ?_) (fun hq => ?_)
      · have hf := zneg hq hf
        obtain ⟨y5, ey5⟩ : ∃ y : Int32, y = x3_2 + (1 : Int32) := ⟨_, rfl⟩
        have hf := zlet_n ey5 hf
        refine g_iinc X (j := 3) [(3, .int y5), (0, .ref (base + r0)), (1, .int x1), (2, .int x2)] dX12_isPicked_19 rfl (by rw [ey5]; rfl) (by decide) rfl ?_
        refine g_goto X 2 dX12_isPicked_22 (by decide) ?_
        cases hf
        exact g_sub [1, 2, 3, 0] rfl (hc0 rfl)
      · have hf := zpos hq hf
        cases hf
        have hc1 := hc1 (by decide)
        exact g_sub [] rfl (zun_p rfl hc1)
  · obtain ⟨ee, x3_k2, h_k2⟩ := qq
    have hf : kX12_isPicked_2 h ee x3_k2 h_k2 = some (rE, hE) := hf
    unfold kX12_isPicked_2 at hf
    by_cases hee0 : ee = 1
    · have hf := zpos hee0 hf
      refine zifp hee0 ?_
      show zG p l e { frames := 0, cells := 0, slots := 0, locals := 0 } s m args below meth c (MQ below (zQ D cA base h hE (some (.int rE))) args s 0 0 (zA base)) 4 D cA base h 17 [] [] h_k2
      refine g_iconst X (v := 1) dX12_isPicked_17 (by decide) ?_
      obtain ⟨rfl, rfl⟩ := zsm hf
      exact g_zret X (Or.inr rfl) hr dX12_isPicked_18
    have hf := zneg hee0 hf
    refine zifn hee0 ?_
    show zG p l e { frames := 0, cells := 0, slots := 0, locals := 0 } s m args below meth c (MQ below (zQ D cA base h hE (some (.int rE))) args s 0 0 (zA base)) 4 D cA base h 25 [] [] h_k2
    refine g_iconst X (v := 0) dX12_isPicked_25 (by decide) ?_
    obtain ⟨rfl, rfl⟩ := zsm hf
    exact g_zret X (Or.inl rfl) hr dX12_isPicked_26

set_option maxHeartbeats 4000000 in
set_option maxRecDepth 100000 in
theorem sX12_next {l : Launch} {D : va_G} {cA : Nat → ClassId} {base : Nat} {sA : Nat → Nat} {r0 : Nat} {x1 : Int32} {h hE : Zh} {rE : Int32} (hf : fX12_next r0 x1 h = some (rE, hE)) : zC l yX12_next cX12_next 3 (some .int) 1 23 D cA base sA [.ref (base + r0), .int x1] h (some (.int rE)) hE := by
  refine g_entry RX12 (by decide) rfl (Nat.le_of_ble_eq_true rfl) ?_
  intro p e s m args below meth c X hr
  unfold fX12_next at hf
  have hf := zlet_n (x := h) rfl hf
  show zG p l e { frames := 1, cells := 0, slots := 0, locals := 23 } s m args below meth c (MQ below (zQ D cA base h hE (some (.int rE))) args s 0 0 (zA base)) 3 D cA base h 0 [(0, .ref (base + r0)), (1, .int x1)] [] h
  refine g_aload_n X 0 dX12_next_0 rfl ?_
  obtain ⟨hk1, hf⟩ := zite hf
  obtain ⟨r_2, hr_2, hf⟩ := zbd hf
  refine g_get X zf12 hk1 18 (by decide) w_f_RX12_20 rfl (zfv_r hr_2 rfl) dX12_next_1 ?_
  refine g_iload_n X 1 dX12_next_4 rfl ?_
  obtain ⟨hk3, hf⟩ := zite hf
  obtain ⟨hi4, hf⟩ := zite hf
  refine g_iald X hk3 hi4 dX12_next_5 ?_
  refine g_iconst X (v := 1) dX12_next_6 (by decide) ?_
  refine g_iadd X dX12_next_7 ?_
  refine g_topi (fun y5 ey5 => ?_)
  have hf := zlet_n ey5 hf
  refine g_istore_n X [(2, .int y5), (0, .ref (base + r0)), (1, .int x1)] dX12_next_8 (by decide) rfl ?_
  refine g_aload_n X 1 dX12_next_9 rfl ?_
  obtain ⟨r_6, hr_6, hf⟩ := zbd hf
  refine g_get X zf12 hk1 3 (by decide) w_f_RX12_329 rfl (zfv_r hr_6 rfl) dX12_next_10 ?_
  obtain ⟨hk7, hf⟩ := zite hf
  refine g_getN X zf11 hk7 7 (by decide) w_fn_RX12_228 rfl rfl dX12_next_13 ?_
  have hJ46 : ∀ (x2_46 : Int32) (h_46 : Zh), jX12_next_46 h r0 x1 x2_46 h_46 = some (rE, hE) → zG p l e { frames := 1, cells := 0, slots := 0, locals := 23 } s m args below meth c (MQ below (zQ D cA base h hE (some (.int rE))) args s 0 0 (zA base)) 3 D cA base h 46 [(0, .ref (base + r0)), (1, .int x1), (2, .int x2_46)] [] h_46 := by
    intro x2_46 h_46 hf
    unfold jX12_next_46 at hf
    refine g_sub [0, 1, 2] rfl ?_
    obtain ⟨qq, hlp, hf⟩ := zbd hf
    refine lp_snd (body := (fun q : Int32 × Zh => bX12_next_46 h r0 x1 q.1 q.2)) (P := (fun q : Int32 × Zh => zG p l e { frames := 1, cells := 0, slots := 0, locals := 23 } s m args below meth c (MQ below (zQ D cA base h hE (some (.int rE))) args s 0 0 (zA base)) 3 D cA base h 46 [(0, .ref (base + r0)), (1, .int x1), (2, .int q.1)] [] q.2)) (E := (fun (en : Nat) (q : Int32 × Zh) => zG p l e { frames := 1, cells := 0, slots := 0, locals := 23 } s m args below meth c (MQ below (zQ D cA base h hE (some (.int rE))) args s 0 0 (zA base)) 3 D cA base h 72 [(0, .ref (base + r0)), (2, .int q.1)] [] q.2)) ?_ zB (x2_46, h_46) qq.1 qq.2 hlp ?_
    · intro q e_46 q_46 hf hc0 hc1
      obtain ⟨x2_46, h_46⟩ := q
      have hf : bX12_next_46 h r0 x1 x2_46 h_46 = some (e_46, q_46) := hf
      unfold bX12_next_46 at hf
      show zG p l e { frames := 1, cells := 0, slots := 0, locals := 23 } s m args below meth c (MQ below (zQ D cA base h hE (some (.int rE))) args s 0 0 (zA base)) 3 D cA base h 46 [(0, .ref (base + r0)), (1, .int x1), (2, .int x2_46)] [] h_46
      refine g_iload_n X 2 dX12_next_46 rfl ?_
      refine g_aload_n X 0 dX12_next_47 rfl ?_
      obtain ⟨r_8, hr_8, hf⟩ := zbd hf
      refine g_get X zf12 hk1 3 (by decide) w_f_RX12_329 rfl (zfv_r hr_8 rfl) dX12_next_48 ?_
      obtain ⟨hk9, hf⟩ := zite hf
      refine g_getN X zf11 hk9 0 (by decide) w_fn_RX12_194 rfl rfl dX12_next_51 ?_
      refine g_icmp_ge X 72 dX12_next_54 (by decide) (fun hq => ?_) (fun hq => ?_)
      · have hf := zpos hq hf
        cases hf
        have hc1 := hc1 (by decide)
        exact g_sub [0, 2] rfl hc1
      · have hf := zneg hq hf
        refine g_aload_n X 0 dX12_next_57 rfl ?_
        refine g_iload_n X 2 dX12_next_58 rfl ?_
        refine g_iload_n X 1 dX12_next_59 rfl ?_
        obtain ⟨v11, h10, hch10, hf⟩ := zc2_e hf
        refine g_callV X 2 (sX12_isPicked hch10) zf12 hk1 ydX12_isPicked w_ml_RX12_362 w_instanceMethod_X12_isPicked w_sel_X12_isPicked w_ini_RX12 w_code_X12_isPicked (by decide) rfl (st := []) rfl rfl (Nat.le_of_ble_eq_true rfl) dX12_next_60 ?_
        refine g_if_eq X 72 dX12_next_63 (by decide) (fun hq => ?_) (fun hq => ?_)
        · have hf := zpos hq hf
          cases hf
          have hc1 := hc1 (by decide)
          exact g_sub [0, 2] rfl hc1
        · have hf := zneg hq hf
          obtain ⟨y12, ey12⟩ : ∃ y : Int32, y = x2_46 + (1 : Int32) := ⟨_, rfl⟩
          have hf := zlet_n ey12 hf
          refine g_iinc X (j := 2) [(2, .int y12), (0, .ref (base + r0)), (1, .int x1)] dX12_next_66 rfl (by rw [ey12]; rfl) (by decide) rfl ?_
          refine g_goto X 46 dX12_next_69 (by decide) ?_
          cases hf
          exact g_sub [1, 2, 0] rfl (hc0 rfl)
    · obtain ⟨ee, x2_k46, h_k46⟩ := qq
      have hf : kX12_next_46 h r0 ee x2_k46 h_k46 = some (rE, hE) := hf
      unfold kX12_next_46 at hf
      show zG p l e { frames := 1, cells := 0, slots := 0, locals := 23 } s m args below meth c (MQ below (zQ D cA base h hE (some (.int rE))) args s 0 0 (zA base)) 3 D cA base h 72 [(0, .ref (base + r0)), (2, .int x2_k46)] [] h_k46
      refine g_iload_n X 1 dX12_next_72 rfl ?_
      refine g_aload_n X 0 dX12_next_73 rfl ?_
      obtain ⟨r_13, hr_13, hf⟩ := zbd hf
      refine g_get X zf12 hk1 3 (by decide) w_f_RX12_329 rfl (zfv_r hr_13 rfl) dX12_next_74 ?_
      obtain ⟨hk14, hf⟩ := zite hf
      refine g_getN X zf11 hk14 0 (by decide) w_fn_RX12_194 rfl rfl dX12_next_77 ?_
      refine g_icmp_ge X 87 dX12_next_80 (by decide) (fun hq => ?_) (fun hq => ?_)
      · have hf := zpos hq hf
        refine g_aload_n X 0 dX12_next_87 rfl ?_
        obtain ⟨r_15, hr_15, hf⟩ := zbd hf
        refine g_get X zf12 hk1 3 (by decide) w_f_RX12_329 rfl (zfv_r hr_15 rfl) dX12_next_88 ?_
        obtain ⟨hk16, hf⟩ := zite hf
        refine g_getN X zf11 hk16 0 (by decide) w_fn_RX12_194 rfl rfl dX12_next_91 ?_
        obtain ⟨rfl, rfl⟩ := zsm hf
        exact g_iret X hr dX12_next_94
      · have hf := zneg hq hf
        refine g_iload_n X 1 dX12_next_83 rfl ?_
        refine g_goto X 94 dX12_next_84 (by decide) ?_
        obtain ⟨rfl, rfl⟩ := zsm hf
        exact g_iret X hr dX12_next_94
  refine g_if_ne X 46 dX12_next_16 (by decide) (fun hq => ?_) (fun hq => ?_)
  · have hf := zneg hq hf
    refine g_sub [1, 2, 0] rfl ?_
    exact hJ46 _ _ hf
  · have hf := zpos hq hf
    refine g_iload_n X 2 dX12_next_19 rfl ?_
    refine g_if_le X 46 dX12_next_20 (by decide) (fun hq => ?_) (fun hq => ?_)
    · have hf := zpos hq hf
      refine g_sub [1, 2, 0] rfl ?_
      exact hJ46 _ _ hf
    · have hf := zneg hq hf
      refine g_iload_n X 0 dX12_next_23 rfl ?_
      refine g_aload_n X 1 dX12_next_24 rfl ?_
      obtain ⟨r_17, hr_17, hf⟩ := zbd hf
      refine g_get X zf12 hk1 18 (by decide) w_f_RX12_20 rfl (zfv_r hr_17 rfl) dX12_next_25 ?_
      refine g_iload_n X 2 dX12_next_28 rfl ?_
      refine g_iconst X (v := 1) dX12_next_29 (by decide) ?_
      refine g_isub X dX12_next_30 ?_
      obtain ⟨hk18, hf⟩ := zite hf
      obtain ⟨hi19, hf⟩ := zite hf
      refine g_iald X hk18 hi19 dX12_next_31 ?_
      refine g_icmp_gt X 46 dX12_next_32 (by decide) (fun hq => ?_) (fun hq => ?_)
      · have hf := zpos hq hf
        refine g_sub [1, 2, 0] rfl ?_
        exact hJ46 _ _ hf
      · have hf := zneg hq hf
        refine g_aload_n X 1 dX12_next_35 rfl ?_
        obtain ⟨r_20, hr_20, hf⟩ := zbd hf
        refine g_get X zf12 hk1 18 (by decide) w_f_RX12_20 rfl (zfv_r hr_20 rfl) dX12_next_36 ?_
        refine g_iload_n X 2 dX12_next_39 rfl ?_
        refine g_iconst X (v := 1) dX12_next_40 (by decide) ?_
        refine g_isub X dX12_next_41 ?_
        obtain ⟨hk21, hf⟩ := zite hf
        obtain ⟨hi22, hf⟩ := zite hf
        refine g_iald X hk21 hi22 dX12_next_42 ?_
        refine g_iconst X (v := 1) dX12_next_43 (by decide) ?_
        refine g_iadd X dX12_next_44 ?_
        refine g_topi (fun y23 ey23 => ?_)
        have hf := zlet_n ey23 hf
        refine g_istore_n X [(2, .int y23), (0, .ref (base + r0)), (1, .int x1)] dX12_next_45 (by decide) rfl ?_
        refine g_sub [1, 2, 0] rfl ?_
        exact hJ46 _ _ hf

set_option maxHeartbeats 4000000 in
set_option maxRecDepth 100000 in
theorem sX12_deals {l : Launch} {D : va_G} {cA : Nat → ClassId} {base : Nat} {sA : Nat → Nat} {r0 : Nat} {h hE : Zh} (hf : fX12_deals r0 h = some hE) : zC l yX12_deals cX12_deals 3 none 2 45 D cA base sA [.ref (base + r0)] h none hE := by
  refine g_entry RX12 (by decide) rfl (Nat.le_of_ble_eq_true rfl) ?_
  intro p e s m args below meth c X hr
  unfold fX12_deals at hf
  have hf := zlet_n (x := h) rfl hf
  show zG p l e { frames := 2, cells := 0, slots := 0, locals := 45 } s m args below meth c (MQ below (zQ D cA base h hE none) args s 0 0 (zA base)) 3 D cA base h 0 [(0, .ref (base + r0))] [] h
  refine g_aload_n X 0 dX12_deals_0 rfl ?_
  refine g_iconst X (v := 0) dX12_deals_1 (by decide) ?_
  obtain ⟨hk1, hf⟩ := zite hf
  refine g_putI X zf12 hk1 17 (by decide) w_f_RX12_356 rfl rfl rfl dX12_deals_2 ?_
  refine g_hp (fun h2 eh2 => ?_)
  have hf := zlet_n eh2 hf
  refine g_iconst X (v := 0) dX12_deals_5 (by decide) ?_
  refine g_istore_n X [(1, .int ((0 : Int32))), (0, .ref (base + r0))] dX12_deals_6 (by decide) rfl ?_
  refine g_sub [1, 0] rfl ?_
  obtain ⟨qq, hlp, hf⟩ := zbd hf
  refine lp_snd (body := (fun q : Int32 × Zh => bX12_deals_7 h r0 q.1 q.2)) (P := (fun q : Int32 × Zh => zG p l e { frames := 2, cells := 0, slots := 0, locals := 45 } s m args below meth c (MQ below (zQ D cA base h hE none) args s 0 0 (zA base)) 3 D cA base h 7 [(0, .ref (base + r0)), (1, .int q.1)] [] q.2)) (E := (fun (en : Nat) (q : Int32 × Zh) => zG p l e { frames := 2, cells := 0, slots := 0, locals := 45 } s m args below meth c (MQ below (zQ D cA base h hE none) args s 0 0 (zA base)) 3 D cA base h 25 [(0, .ref (base + r0))] [] q.2)) ?_ zB ((0 : Int32), h2) qq.1 qq.2 hlp ?_
  · intro q e_7 q_7 hf hc0 hc1
    obtain ⟨x1_7, h_7⟩ := q
    have hf : bX12_deals_7 h r0 x1_7 h_7 = some (e_7, q_7) := hf
    unfold bX12_deals_7 at hf
    show zG p l e { frames := 2, cells := 0, slots := 0, locals := 45 } s m args below meth c (MQ below (zQ D cA base h hE none) args s 0 0 (zA base)) 3 D cA base h 7 [(0, .ref (base + r0)), (1, .int x1_7)] [] h_7
    refine g_iload_n X 1 dX12_deals_7 rfl ?_
    refine g_iconst X (v := 5) dX12_deals_8 (by decide) ?_
    refine g_icmp_ge X 25 dX12_deals_9 (by decide) (fun hq => ?_) (fun hq => ?_)
    · have hf := zpos hq hf
      cases hf
      have hc1 := hc1 (by decide)
      exact g_sub [0] rfl hc1
    · have hf := zneg hq hf
      refine g_aload_n X 0 dX12_deals_12 rfl ?_
      obtain ⟨r_3, hr_3, hf⟩ := zbd hf
      refine g_get X zf12 hk1 18 (by decide) w_f_RX12_20 rfl (zfv_r hr_3 rfl) dX12_deals_13 ?_
      refine g_iload_n X 1 dX12_deals_16 rfl ?_
      refine g_iconst X (v := -1) dX12_deals_17 (by decide) ?_
      obtain ⟨hk4, hf⟩ := zite hf
      obtain ⟨hi5, hf⟩ := zite hf
      refine g_iast X hk4 hi5 dX12_deals_18 ?_
      refine g_hp (fun h6 eh6 => ?_)
      have hf := zlet_n eh6 hf
      obtain ⟨y7, ey7⟩ : ∃ y : Int32, y = x1_7 + (1 : Int32) := ⟨_, rfl⟩
      have hf := zlet_n ey7 hf
      refine g_iinc X (j := 1) [(1, .int y7), (0, .ref (base + r0))] dX12_deals_19 rfl (by rw [ey7]; rfl) (by decide) rfl ?_
      refine g_goto X 7 dX12_deals_22 (by decide) ?_
      cases hf
      exact g_sub [1, 0] rfl (hc0 rfl)
  · obtain ⟨ee, x1_k7, h_k7⟩ := qq
    have hf : kX12_deals_7 h r0 ee x1_k7 h_k7 = some hE := hf
    unfold kX12_deals_7 at hf
    show zG p l e { frames := 2, cells := 0, slots := 0, locals := 45 } s m args below meth c (MQ below (zQ D cA base h hE none) args s 0 0 (zA base)) 3 D cA base h 25 [(0, .ref (base + r0))] [] h_k7
    refine g_iconst X (v := 0) dX12_deals_25 (by decide) ?_
    refine g_istore_n X [(1, .int ((0 : Int32))), (0, .ref (base + r0))] dX12_deals_26 (by decide) rfl ?_
    refine g_sub [1, 0] rfl ?_
    obtain ⟨qq, hlp, hf⟩ := zbd hf
    refine lp_snd (body := (fun q : Int32 × Zh => bX12_deals_27 h r0 q.1 q.2)) (P := (fun q : Int32 × Zh => zG p l e { frames := 2, cells := 0, slots := 0, locals := 45 } s m args below meth c (MQ below (zQ D cA base h hE none) args s 0 0 (zA base)) 3 D cA base h 27 [(0, .ref (base + r0)), (1, .int q.1)] [] q.2)) (E := (fun (en : Nat) (q : Int32 × Zh) => zG p l e { frames := 2, cells := 0, slots := 0, locals := 45 } s m args below meth c (MQ below (zQ D cA base h hE none) args s 0 0 (zA base)) 3 D cA base h 142 [] [] q.2)) ?_ zB ((0 : Int32), h_k7) qq.1 qq.2 hlp ?_
    · intro q e_27 q_27 hf hc0 hc1
      obtain ⟨x1_27, h_27⟩ := q
      have hf : bX12_deals_27 h r0 x1_27 h_27 = some (e_27, q_27) := hf
      unfold bX12_deals_27 at hf
      show zG p l e { frames := 2, cells := 0, slots := 0, locals := 45 } s m args below meth c (MQ below (zQ D cA base h hE none) args s 0 0 (zA base)) 3 D cA base h 27 [(0, .ref (base + r0)), (1, .int x1_27)] [] h_27
      refine g_iload_n X 1 dX12_deals_27 rfl ?_
      refine g_if_lt X 142 dX12_deals_28 (by decide) (fun hq => ?_) (fun hq => ?_)
      · have hf := zpos hq hf
        cases hf
        have hc1 := hc1 (by decide)
        exact g_sub [] rfl hc1
      · have hf := zneg hq hf
        refine g_aload_n X 0 dX12_deals_31 rfl ?_
        obtain ⟨r_8, hr_8, hf⟩ := zbd hf
        refine g_get X zf12 hk1 18 (by decide) w_f_RX12_20 rfl (zfv_r hr_8 rfl) dX12_deals_32 ?_
        refine g_iload_n X 1 dX12_deals_35 rfl ?_
        refine g_aload_n X 0 dX12_deals_36 rfl ?_
        refine g_iload_n X 1 dX12_deals_37 rfl ?_
        obtain ⟨v10, h9, hch9, hf⟩ := zc2_e hf
        refine g_callV X 1 (sX12_next hch9) zf12 hk1 ydX12_next w_ml_RX12_359 w_instanceMethod_X12_next w_sel_X12_next w_ini_RX12 w_code_X12_next (by decide) rfl (st := [.int x1_27, .ref (base + r_8)]) rfl rfl (Nat.le_of_ble_eq_true rfl) dX12_deals_38 ?_
        obtain ⟨hk11, hf⟩ := zite hf
        obtain ⟨hi12, hf⟩ := zite hf
        refine g_iast X hk11 hi12 dX12_deals_41 ?_
        refine g_hp (fun h13 eh13 => ?_)
        have hf := zlet_n eh13 hf
        refine g_aload_n X 0 dX12_deals_42 rfl ?_
        obtain ⟨r_14, hr_14, hf⟩ := zbd hf
        refine g_get X zf12 hk1 18 (by decide) w_f_RX12_20 rfl (zfv_r hr_14 rfl) dX12_deals_43 ?_
        refine g_iload_n X 1 dX12_deals_46 rfl ?_
        obtain ⟨hk15, hf⟩ := zite hf
        obtain ⟨hi16, hf⟩ := zite hf
        refine g_iald X hk15 hi16 dX12_deals_47 ?_
        refine g_aload_n X 0 dX12_deals_48 rfl ?_
        obtain ⟨r_17, hr_17, hf⟩ := zbd hf
        refine g_get X zf12 hk1 3 (by decide) w_f_RX12_329 rfl (zfv_r hr_17 rfl) dX12_deals_49 ?_
        obtain ⟨hk18, hf⟩ := zite hf
        refine g_getN X zf11 hk18 0 (by decide) w_fn_RX12_194 rfl rfl dX12_deals_52 ?_
        refine g_icmp_ne X 71 dX12_deals_55 (by decide) (fun hq => ?_) (fun hq => ?_)
        · have hf := zneg hq hf
          refine g_iload_n X 1 dX12_deals_71 rfl ?_
          refine g_aload_n X 0 dX12_deals_72 rfl ?_
          obtain ⟨r_19, hr_19, hf⟩ := zbd hf
          refine g_get X zf12 hk1 3 (by decide) w_f_RX12_329 rfl (zfv_r hr_19 rfl) dX12_deals_73 ?_
          obtain ⟨hk20, hf⟩ := zite hf
          refine g_getN X zf11 hk20 2 (by decide) w_fn_RX12_232 rfl rfl dX12_deals_76 ?_
          refine g_iconst X (v := 1) dX12_deals_79 (by decide) ?_
          refine g_isub X dX12_deals_80 ?_
          refine g_icmp_ne X 136 dX12_deals_81 (by decide) (fun hq => ?_) (fun hq => ?_)
          · have hf := zneg hq hf
            obtain ⟨y21, ey21⟩ : ∃ y : Int32, y = x1_27 + (1 : Int32) := ⟨_, rfl⟩
            have hf := zlet_n ey21 hf
            refine g_iinc X (j := 1) [(1, .int y21), (0, .ref (base + r0))] dX12_deals_136 rfl (by rw [ey21]; rfl) (by decide) rfl ?_
            refine g_goto X 27 dX12_deals_139 (by decide) ?_
            cases hf
            exact g_sub [1, 0] rfl (hc0 rfl)
          · have hf := zpos hq hf
            refine g_iconst X (v := 0) dX12_deals_84 (by decide) ?_
            refine g_istore_n X [(2, .int ((0 : Int32))), (0, .ref (base + r0)), (1, .int x1_27)] dX12_deals_85 (by decide) rfl ?_
            refine g_sub [1, 2, 0] rfl ?_
            obtain ⟨qq, hlp, hf⟩ := zbd hf
            refine lp_snd (body := (fun q : Int32 × Zh => bX12_deals_86 h r0 q.1 q.2)) (P := (fun q : Int32 × Zh => zG p l e { frames := 2, cells := 0, slots := 0, locals := 45 } s m args below meth c (MQ below (zQ D cA base h hE none) args s 0 0 (zA base)) 3 D cA base h 86 [(0, .ref (base + r0)), (1, .int x1_27), (2, .int q.1)] [] q.2)) (E := (fun (en : Nat) (q : Int32 × Zh) => zG p l e { frames := 2, cells := 0, slots := 0, locals := 45 } s m args below meth c (MQ below (zQ D cA base h hE none) args s 0 0 (zA base)) 3 D cA base h 123 [(0, .ref (base + r0)), (1, .int x1_27)] [] q.2)) ?_ zB ((0 : Int32), h13) qq.1 qq.2 hlp ?_
            · intro q e_86 q_86 hf hc0 hc1
              obtain ⟨x2_86, h_86⟩ := q
              have hf : bX12_deals_86 h r0 x2_86 h_86 = some (e_86, q_86) := hf
              unfold bX12_deals_86 at hf
              show zG p l e { frames := 2, cells := 0, slots := 0, locals := 45 } s m args below meth c (MQ below (zQ D cA base h hE none) args s 0 0 (zA base)) 3 D cA base h 86 [(0, .ref (base + r0)), (1, .int x1_27), (2, .int x2_86)] [] h_86
              refine g_iload_n X 2 dX12_deals_86 rfl ?_
              refine g_aload_n X 0 dX12_deals_87 rfl ?_
              obtain ⟨r_22, hr_22, hf⟩ := zbd hf
              refine g_get X zf12 hk1 3 (by decide) w_f_RX12_329 rfl (zfv_r hr_22 rfl) dX12_deals_88 ?_
              obtain ⟨hk23, hf⟩ := zite hf
              refine g_getN X zf11 hk23 2 (by decide) w_fn_RX12_232 rfl rfl dX12_deals_91 ?_
              refine g_icmp_ge X 123 dX12_deals_94 (by decide) (fun hq => ?_) (fun hq => ?_)
              · have hf := zpos hq hf
                cases hf
                have hc1 := hc1 (by decide)
                exact g_sub [0, 1] rfl hc1
              · have hf := zneg hq hf
                refine g_aload_n X 0 dX12_deals_97 rfl ?_
                obtain ⟨r_24, hr_24, hf⟩ := zbd hf
                refine g_get X zf12 hk1 16 (by decide) w_f_RX12_17 rfl (zfv_r hr_24 rfl) dX12_deals_98 ?_
                refine g_iconst X (v := 5) dX12_deals_101 (by decide) ?_
                refine g_aload_n X 0 dX12_deals_102 rfl ?_
                refine g_get X zf12 hk1 17 (by decide) w_f_RX12_356 rfl rfl dX12_deals_103 ?_
                refine g_imul X dX12_deals_106 ?_
                refine g_iload_n X 2 dX12_deals_107 rfl ?_
                refine g_iadd X dX12_deals_108 ?_
                refine g_aload_n X 0 dX12_deals_109 rfl ?_
                obtain ⟨r_25, hr_25, hf⟩ := zbd hf
                refine g_get X zf12 hk1 18 (by decide) w_f_RX12_20 rfl (zfv_r hr_25 rfl) dX12_deals_110 ?_
                refine g_iload_n X 2 dX12_deals_113 rfl ?_
                obtain ⟨hk26, hf⟩ := zite hf
                obtain ⟨hi27, hf⟩ := zite hf
                refine g_iald X hk26 hi27 dX12_deals_114 ?_
                refine g_i2b X dX12_deals_115 ?_
                obtain ⟨hk28, hf⟩ := zite hf
                obtain ⟨hi29, hf⟩ := zite hf
                refine g_bast X hk28 hi29 dX12_deals_116 ?_
                refine g_hp (fun h30 eh30 => ?_)
                have hf := zlet_n eh30 hf
                obtain ⟨y31, ey31⟩ : ∃ y : Int32, y = x2_86 + (1 : Int32) := ⟨_, rfl⟩
                have hf := zlet_n ey31 hf
                refine g_iinc X (j := 2) [(2, .int y31), (0, .ref (base + r0)), (1, .int x1_27)] dX12_deals_117 rfl (by rw [ey31]; rfl) (by decide) rfl ?_
                refine g_goto X 86 dX12_deals_120 (by decide) ?_
                cases hf
                exact g_sub [1, 2, 0] rfl (hc0 rfl)
            · obtain ⟨ee, x2_k86, h_k86⟩ := qq
              have hf : kX12_deals_86 h r0 x1_27 ee x2_k86 h_k86 = some (e_27, q_27) := hf
              unfold kX12_deals_86 at hf
              show zG p l e { frames := 2, cells := 0, slots := 0, locals := 45 } s m args below meth c (MQ below (zQ D cA base h hE none) args s 0 0 (zA base)) 3 D cA base h 123 [(0, .ref (base + r0)), (1, .int x1_27)] [] h_k86
              refine g_aload_n X 0 dX12_deals_123 rfl ?_
              refine g_dup X dX12_deals_124 rfl ?_
              refine g_get X zf12 hk1 17 (by decide) w_f_RX12_356 rfl rfl dX12_deals_125 ?_
              refine g_iconst X (v := 1) dX12_deals_128 (by decide) ?_
              refine g_iadd X dX12_deals_129 ?_
              refine g_putI X zf12 hk1 17 (by decide) w_f_RX12_356 rfl rfl rfl dX12_deals_130 ?_
              refine g_hp (fun h32 eh32 => ?_)
              have hf := zlet_n eh32 hf
              refine g_goto X 27 dX12_deals_133 (by decide) ?_
              cases hf
              exact g_sub [0, 1] rfl (hc0 rfl)
        · have hf := zpos hq hf
          refine g_aload_n X 0 dX12_deals_58 rfl ?_
          obtain ⟨r_33, hr_33, hf⟩ := zbd hf
          refine g_get X zf12 hk1 18 (by decide) w_f_RX12_20 rfl (zfv_r hr_33 rfl) dX12_deals_59 ?_
          refine g_iload_n X 1 dX12_deals_62 rfl ?_
          refine g_iconst X (v := -1) dX12_deals_63 (by decide) ?_
          obtain ⟨hk34, hf⟩ := zite hf
          obtain ⟨hi35, hf⟩ := zite hf
          refine g_iast X hk34 hi35 dX12_deals_64 ?_
          refine g_hp (fun h36 eh36 => ?_)
          have hf := zlet_n eh36 hf
          obtain ⟨y37, ey37⟩ : ∃ y : Int32, y = x1_27 + (-1 : Int32) := ⟨_, rfl⟩
          have hf := zlet_n ey37 hf
          refine g_iinc X (j := 1) [(1, .int y37), (0, .ref (base + r0))] dX12_deals_65 rfl (by rw [ey37]; rfl) (by decide) rfl ?_
          refine g_goto X 27 dX12_deals_68 (by decide) ?_
          cases hf
          exact g_sub [1, 0] rfl (hc0 rfl)
    · obtain ⟨ee, x1_k27, h_k27⟩ := qq
      have hf : kX12_deals_27 h ee x1_k27 h_k27 = some hE := hf
      unfold kX12_deals_27 at hf
      show zG p l e { frames := 2, cells := 0, slots := 0, locals := 45 } s m args below meth c (MQ below (zQ D cA base h hE none) args s 0 0 (zA base)) 3 D cA base h 142 [] [] h_k27
      cases hf
      exact g_vret X hr dX12_deals_142

set_option maxHeartbeats 4000000 in
set_option maxRecDepth 100000 in
theorem sX12_cardOf {l : Launch} {D : va_G} {cA : Nat → ClassId} {base : Nat} {sA : Nat → Nat} {r0 : Nat} {x1 : Int32} {x2 : Int32} {h hE : Zh} {rE : Int32} (hf : fX12_cardOf r0 x1 x2 h = some (rE, hE)) : zC l yX12_cardOf cX12_cardOf 3 (some .int) 0 0 D cA base sA [.ref (base + r0), .int x1, .int x2] h (some (.int rE)) hE := by
  refine g_entry RX12 (by decide) rfl (Nat.le_of_ble_eq_true rfl) ?_
  intro p e s m args below meth c X hr
  unfold fX12_cardOf at hf
  have hf := zlet_n (x := h) rfl hf
  show zG p l e { frames := 0, cells := 0, slots := 0, locals := 0 } s m args below meth c (MQ below (zQ D cA base h hE (some (.int rE))) args s 0 0 (zA base)) 3 D cA base h 0 [(0, .ref (base + r0)), (1, .int x1), (2, .int x2)] [] h
  refine g_aload_n X 0 dX12_cardOf_0 rfl ?_
  obtain ⟨hk1, hf⟩ := zite hf
  obtain ⟨r_2, hr_2, hf⟩ := zbd hf
  refine g_get X zf12 hk1 16 (by decide) w_f_RX12_17 rfl (zfv_r hr_2 rfl) dX12_cardOf_1 ?_
  refine g_iconst X (v := 5) dX12_cardOf_4 (by decide) ?_
  refine g_iload_n X 1 dX12_cardOf_5 rfl ?_
  refine g_imul X dX12_cardOf_6 ?_
  refine g_iload_n X 2 dX12_cardOf_7 rfl ?_
  refine g_iadd X dX12_cardOf_8 ?_
  obtain ⟨hk3, hf⟩ := zite hf
  obtain ⟨hi4, hf⟩ := zite hf
  refine g_bald X hk3 hi4 dX12_cardOf_9 ?_
  obtain ⟨rfl, rfl⟩ := zsm hf
  exact g_iret X hr dX12_cardOf_10

set_option maxHeartbeats 4000000 in
set_option maxRecDepth 100000 in
theorem sX12_has {l : Launch} {D : va_G} {cA : Nat → ClassId} {base : Nat} {sA : Nat → Nat} {r0 : Nat} {x1 : Int32} {x2 : Int32} {h hE : Zh} {rE : Int32} (hf : fX12_has r0 x1 x2 h = some (rE, hE)) : zC l yX12_has cX12_has 4 (some .boolean) 1 22 D cA base sA [.ref (base + r0), .int x1, .int x2] h (some (.int rE)) hE := by
  refine g_entry RX12 (by decide) rfl (Nat.le_of_ble_eq_true rfl) ?_
  intro p e s m args below meth c X hr
  unfold fX12_has at hf
  have hf := zlet_n (x := h) rfl hf
  show zG p l e { frames := 1, cells := 0, slots := 0, locals := 22 } s m args below meth c (MQ below (zQ D cA base h hE (some (.int rE))) args s 0 0 (zA base)) 4 D cA base h 0 [(0, .ref (base + r0)), (1, .int x1), (2, .int x2)] [] h
  refine g_iconst X (v := 0) dX12_has_0 (by decide) ?_
  refine g_istore_n X [(3, .int ((0 : Int32))), (0, .ref (base + r0)), (1, .int x1), (2, .int x2)] dX12_has_1 (by decide) rfl ?_
  refine g_sub [1, 2, 3, 0] rfl ?_
  obtain ⟨qq, hlp, hf⟩ := zbd hf
  refine lp_snd (body := (fun q : Int32 × Zh => bX12_has_2 h r0 x1 x2 q.1 q.2)) (P := (fun q : Int32 × Zh => zG p l e { frames := 1, cells := 0, slots := 0, locals := 22 } s m args below meth c (MQ below (zQ D cA base h hE (some (.int rE))) args s 0 0 (zA base)) 4 D cA base h 2 [(0, .ref (base + r0)), (1, .int x1), (2, .int x2), (3, .int q.1)] [] q.2)) (E := (fun (en : Nat) (q : Int32 × Zh) => if en = 1 then zG p l e { frames := 1, cells := 0, slots := 0, locals := 22 } s m args below meth c (MQ below (zQ D cA base h hE (some (.int rE))) args s 0 0 (zA base)) 4 D cA base h 23 [] [] q.2 else zG p l e { frames := 1, cells := 0, slots := 0, locals := 22 } s m args below meth c (MQ below (zQ D cA base h hE (some (.int rE))) args s 0 0 (zA base)) 4 D cA base h 31 [] [] q.2)) ?_ zB ((0 : Int32), h) qq.1 qq.2 hlp ?_
  · intro q e_2 q_2 hf hc0 hc1
    obtain ⟨x3_2, h_2⟩ := q
    have hf : bX12_has_2 h r0 x1 x2 x3_2 h_2 = some (e_2, q_2) := hf
    unfold bX12_has_2 at hf
    show zG p l e { frames := 1, cells := 0, slots := 0, locals := 22 } s m args below meth c (MQ below (zQ D cA base h hE (some (.int rE))) args s 0 0 (zA base)) 4 D cA base h 2 [(0, .ref (base + r0)), (1, .int x1), (2, .int x2), (3, .int x3_2)] [] h_2
    refine g_iload_n X 3 dX12_has_2 rfl ?_
    refine g_aload_n X 0 dX12_has_3 rfl ?_
    obtain ⟨hk1, hf⟩ := zite hf
    obtain ⟨r_2, hr_2, hf⟩ := zbd hf
    refine g_get X zf12 hk1 3 (by decide) w_f_RX12_329 rfl (zfv_r hr_2 rfl) dX12_has_4 ?_
    obtain ⟨hk3, hf⟩ := zite hf
    refine g_getN X zf11 hk3 2 (by decide) w_fn_RX12_232 rfl rfl dX12_has_7 ?_
    refine g_icmp_ge X 31 dX12_has_10 (by decide) (fun hq => ?_) (fun hq => ?_)
    · have hf := zpos hq hf
      cases hf
      have hc1 := hc1 (by decide)
      exact g_sub [] rfl (zun_n (by decide) hc1)
    · have hf := zneg hq hf
      refine g_aload_n X 0 dX12_has_13 rfl ?_
      refine g_iload_n X 1 dX12_has_14 rfl ?_
      refine g_iload_n X 3 dX12_has_15 rfl ?_
      obtain ⟨v5, h4, hch4, hf⟩ := zc2_e hf
      refine g_callV X 2 (sX12_cardOf hch4) zf12 hk1 ydX12_cardOf w_ml_RX12_366 w_instanceMethod_X12_cardOf w_sel_X12_cardOf w_ini_RX12 w_code_X12_cardOf (by decide) rfl (st := []) rfl rfl (Nat.le_of_ble_eq_true rfl) dX12_has_16 ?_
      refine g_iload_n X 2 dX12_has_19 rfl ?_
      refine g_icmp_ne X 25 dX12_has_20 (by decide) (fun hq => ?_) (fun hq => ?_)
      · have hf := zneg hq hf
        obtain ⟨y6, ey6⟩ : ∃ y : Int32, y = x3_2 + (1 : Int32) := ⟨_, rfl⟩
        have hf := zlet_n ey6 hf
        refine g_iinc X (j := 3) [(3, .int y6), (0, .ref (base + r0)), (1, .int x1), (2, .int x2)] dX12_has_25 rfl (by rw [ey6]; rfl) (by decide) rfl ?_
        refine g_goto X 2 dX12_has_28 (by decide) ?_
        cases hf
        exact g_sub [1, 2, 3, 0] rfl (hc0 rfl)
      · have hf := zpos hq hf
        cases hf
        have hc1 := hc1 (by decide)
        exact g_sub [] rfl (zun_p rfl hc1)
  · obtain ⟨ee, x3_k2, h_k2⟩ := qq
    have hf : kX12_has_2 h ee x3_k2 h_k2 = some (rE, hE) := hf
    unfold kX12_has_2 at hf
    by_cases hee0 : ee = 1
    · have hf := zpos hee0 hf
      refine zifp hee0 ?_
      show zG p l e { frames := 1, cells := 0, slots := 0, locals := 22 } s m args below meth c (MQ below (zQ D cA base h hE (some (.int rE))) args s 0 0 (zA base)) 4 D cA base h 23 [] [] h_k2
      refine g_iconst X (v := 1) dX12_has_23 (by decide) ?_
      obtain ⟨rfl, rfl⟩ := zsm hf
      exact g_zret X (Or.inr rfl) hr dX12_has_24
    have hf := zneg hee0 hf
    refine zifn hee0 ?_
    show zG p l e { frames := 1, cells := 0, slots := 0, locals := 22 } s m args below meth c (MQ below (zQ D cA base h hE (some (.int rE))) args s 0 0 (zA base)) 4 D cA base h 31 [] [] h_k2
    refine g_iconst X (v := 0) dX12_has_31 (by decide) ?_
    obtain ⟨rfl, rfl⟩ := zsm hf
    exact g_zret X (Or.inl rfl) hr dX12_has_32

set_option maxHeartbeats 4000000 in
set_option maxRecDepth 100000 in
theorem sX12_handNumber {l : Launch} {D : va_G} {cA : Nat → ClassId} {base : Nat} {sA : Nat → Nat} {r0 : Nat} {r1 : Nat} {x2 : Int32} {h hE : Zh} {rE : Int32} (hf : fX12_handNumber r0 r1 x2 h = some (rE, hE)) : zC l yX12_handNumber cX12_handNumber 6 (some .int) 2 45 D cA base sA [.ref (base + r0), .ref (base + r1), .int x2] h (some (.int rE)) hE := by
  refine g_entry RX12 (by decide) rfl (Nat.le_of_ble_eq_true rfl) ?_
  intro p e s m args below meth c X hr
  unfold fX12_handNumber at hf
  have hf := zlet_n (x := h) rfl hf
  show zG p l e { frames := 2, cells := 0, slots := 0, locals := 45 } s m args below meth c (MQ below (zQ D cA base h hE (some (.int rE))) args s 0 0 (zA base)) 6 D cA base h 0 [(0, .ref (base + r0)), (1, .ref (base + r1)), (2, .int x2)] [] h
  refine g_iconst X (v := 0) dX12_handNumber_0 (by decide) ?_
  refine g_istore_n X [(3, .int ((0 : Int32))), (0, .ref (base + r0)), (1, .ref (base + r1)), (2, .int x2)] dX12_handNumber_1 (by decide) rfl ?_
  refine g_sub [1, 2, 3, 0] rfl ?_
  obtain ⟨qq, hlp, hf⟩ := zbd hf
  refine lp_snd (body := (fun q : Int32 × Zh => bX12_handNumber_2 h r0 r1 x2 q.1 q.2)) (P := (fun q : Int32 × Zh => zG p l e { frames := 2, cells := 0, slots := 0, locals := 45 } s m args below meth c (MQ below (zQ D cA base h hE (some (.int rE))) args s 0 0 (zA base)) 6 D cA base h 2 [(0, .ref (base + r0)), (1, .ref (base + r1)), (2, .int x2), (3, .int q.1)] [] q.2)) (E := (fun (en : Nat) (q : Int32 × Zh) => if en = 1 then zG p l e { frames := 2, cells := 0, slots := 0, locals := 45 } s m args below meth c (MQ below (zQ D cA base h hE (some (.int rE))) args s 0 0 (zA base)) 6 D cA base h 94 [(3, .int q.1)] [] q.2 else zG p l e { frames := 2, cells := 0, slots := 0, locals := 45 } s m args below meth c (MQ below (zQ D cA base h hE (some (.int rE))) args s 0 0 (zA base)) 6 D cA base h 102 [] [] q.2)) ?_ zB ((0 : Int32), h) qq.1 qq.2 hlp ?_
  · intro q e_2 q_2 hf hc0 hc1
    obtain ⟨x3_2, h_2⟩ := q
    have hf : bX12_handNumber_2 h r0 r1 x2 x3_2 h_2 = some (e_2, q_2) := hf
    unfold bX12_handNumber_2 at hf
    show zG p l e { frames := 2, cells := 0, slots := 0, locals := 45 } s m args below meth c (MQ below (zQ D cA base h hE (some (.int rE))) args s 0 0 (zA base)) 6 D cA base h 2 [(0, .ref (base + r0)), (1, .ref (base + r1)), (2, .int x2), (3, .int x3_2)] [] h_2
    refine g_iload_n X 3 dX12_handNumber_2 rfl ?_
    refine g_aload_n X 0 dX12_handNumber_3 rfl ?_
    obtain ⟨hk1, hf⟩ := zite hf
    refine g_get X zf12 hk1 17 (by decide) w_f_RX12_356 rfl rfl dX12_handNumber_4 ?_
    refine g_icmp_ge X 102 dX12_handNumber_7 (by decide) (fun hq => ?_) (fun hq => ?_)
    · have hf := zpos hq hf
      cases hf
      have hc1 := hc1 (by decide)
      exact g_sub [] rfl (zun_n (by decide) hc1)
    · have hf := zneg hq hf
      refine g_iconst X (v := 1) dX12_handNumber_10 (by decide) ?_
      refine g_istore X [(4, .int ((1 : Int32))), (0, .ref (base + r0)), (1, .ref (base + r1)), (2, .int x2), (3, .int x3_2)] dX12_handNumber_11 (by decide) rfl ?_
      refine g_iconst X (v := 0) dX12_handNumber_13 (by decide) ?_
      refine g_istore X [(5, .int ((0 : Int32))), (4, .int ((1 : Int32))), (0, .ref (base + r0)), (1, .ref (base + r1)), (2, .int x2), (3, .int x3_2)] dX12_handNumber_14 (by decide) rfl ?_
      refine g_sub [2, 3, 4, 5, 1, 0] rfl ?_
      obtain ⟨qq, hlp, hf⟩ := zbd hf
      refine lp_snd (body := (fun q : Int32 × Int32 × Zh => bX12_handNumber_16 h r0 r1 x2 x3_2 q.1 q.2.1 q.2.2)) (P := (fun q : Int32 × Int32 × Zh => zG p l e { frames := 2, cells := 0, slots := 0, locals := 45 } s m args below meth c (MQ below (zQ D cA base h hE (some (.int rE))) args s 0 0 (zA base)) 6 D cA base h 16 [(0, .ref (base + r0)), (1, .ref (base + r1)), (2, .int x2), (3, .int x3_2), (4, .int q.1), (5, .int q.2.1)] [] q.2.2)) (E := (fun (en : Nat) (q : Int32 × Int32 × Zh) => zG p l e { frames := 2, cells := 0, slots := 0, locals := 45 } s m args below meth c (MQ below (zQ D cA base h hE (some (.int rE))) args s 0 0 (zA base)) 6 D cA base h 89 [(0, .ref (base + r0)), (1, .ref (base + r1)), (2, .int x2), (3, .int x3_2), (4, .int q.1)] [] q.2.2)) ?_ zB ((1 : Int32), ((0 : Int32), h_2)) qq.1 qq.2 hlp ?_
      · intro q e_16 q_16 hf hc0 hc1
        obtain ⟨x4_16, x5_16, h_16⟩ := q
        have hf : bX12_handNumber_16 h r0 r1 x2 x3_2 x4_16 x5_16 h_16 = some (e_16, q_16) := hf
        unfold bX12_handNumber_16 at hf
        show zG p l e { frames := 2, cells := 0, slots := 0, locals := 45 } s m args below meth c (MQ below (zQ D cA base h hE (some (.int rE))) args s 0 0 (zA base)) 6 D cA base h 16 [(0, .ref (base + r0)), (1, .ref (base + r1)), (2, .int x2), (3, .int x3_2), (4, .int x4_16), (5, .int x5_16)] [] h_16
        refine g_iload X 5 dX12_handNumber_16 rfl ?_
        refine g_aload_n X 0 dX12_handNumber_18 rfl ?_
        obtain ⟨r_2, hr_2, hf⟩ := zbd hf
        refine g_get X zf12 hk1 3 (by decide) w_f_RX12_329 rfl (zfv_r hr_2 rfl) dX12_handNumber_19 ?_
        obtain ⟨hk3, hf⟩ := zite hf
        refine g_getN X zf11 hk3 2 (by decide) w_fn_RX12_232 rfl rfl dX12_handNumber_22 ?_
        refine g_icmp_ge X 89 dX12_handNumber_25 (by decide) (fun hq => ?_) (fun hq => ?_)
        · have hf := zpos hq hf
          cases hf
          have hc1 := hc1 (by decide)
          exact g_sub [0, 1, 2, 3, 4] rfl hc1
        · have hf := zneg hq hf
          refine g_iload X 4 dX12_handNumber_28 rfl ?_
          refine g_if_eq X 80 dX12_handNumber_30 (by decide) (fun hq => ?_) (fun hq => ?_)
          · have hf := zpos hq hf
            refine g_iconst X (v := 0) dX12_handNumber_80 (by decide) ?_
            refine g_istore X [(4, .int ((0 : Int32))), (0, .ref (base + r0)), (1, .ref (base + r1)), (2, .int x2), (3, .int x3_2), (5, .int x5_16)] dX12_handNumber_81 (by decide) rfl ?_
            obtain ⟨y4, ey4⟩ : ∃ y : Int32, y = x5_16 + (1 : Int32) := ⟨_, rfl⟩
            have hf := zlet_n ey4 hf
            refine g_iinc X (j := 5) [(5, .int y4), (4, .int ((0 : Int32))), (0, .ref (base + r0)), (1, .ref (base + r1)), (2, .int x2), (3, .int x3_2)] dX12_handNumber_83 rfl (by rw [ey4]; rfl) (by decide) rfl ?_
            refine g_goto X 16 dX12_handNumber_86 (by decide) ?_
            cases hf
            exact g_sub [2, 3, 4, 5, 1, 0] rfl (hc0 rfl)
          · have hf := zneg hq hf
            refine g_aload_n X 0 dX12_handNumber_33 rfl ?_
            obtain ⟨r_5, hr_5, hf⟩ := zbd hf
            refine g_get X zf12 hk1 3 (by decide) w_f_RX12_329 rfl (zfv_r hr_5 rfl) dX12_handNumber_34 ?_
            obtain ⟨hk6, hf⟩ := zite hf
            refine g_getN X zf11 hk6 7 (by decide) w_fn_RX12_228 rfl rfl dX12_handNumber_37 ?_
            refine g_if_eq X 62 dX12_handNumber_40 (by decide) (fun hq => ?_) (fun hq => ?_)
            · have hf := zpos hq hf
              refine g_aload_n X 0 dX12_handNumber_62 rfl ?_
              refine g_iload_n X 3 dX12_handNumber_63 rfl ?_
              refine g_aload_n X 1 dX12_handNumber_64 rfl ?_
              refine g_iload_n X 2 dX12_handNumber_65 rfl ?_
              refine g_iload X 5 dX12_handNumber_66 rfl ?_
              refine g_iadd X dX12_handNumber_68 ?_
              obtain ⟨hk7, hf⟩ := zite hf
              obtain ⟨hi8, hf⟩ := zite hf
              refine g_iald X hk7 hi8 dX12_handNumber_69 ?_
              obtain ⟨v10, h9, hch9, hf⟩ := zc2_e hf
              refine g_callV X 2 (sX12_has hch9) zf12 hk1 ydX12_has w_ml_RX12_369 w_instanceMethod_X12_has w_sel_X12_has w_ini_RX12 w_code_X12_has (by decide) rfl (st := []) rfl rfl (Nat.le_of_ble_eq_true rfl) dX12_handNumber_70 ?_
              refine g_if_eq X 80 dX12_handNumber_73 (by decide) (fun hq => ?_) (fun hq => ?_)
              · have hf := zpos hq hf
                refine g_iconst X (v := 0) dX12_handNumber_80 (by decide) ?_
                refine g_istore X [(4, .int ((0 : Int32))), (0, .ref (base + r0)), (1, .ref (base + r1)), (2, .int x2), (3, .int x3_2), (5, .int x5_16)] dX12_handNumber_81 (by decide) rfl ?_
                obtain ⟨y11, ey11⟩ : ∃ y : Int32, y = x5_16 + (1 : Int32) := ⟨_, rfl⟩
                have hf := zlet_n ey11 hf
                refine g_iinc X (j := 5) [(5, .int y11), (4, .int ((0 : Int32))), (0, .ref (base + r0)), (1, .ref (base + r1)), (2, .int x2), (3, .int x3_2)] dX12_handNumber_83 rfl (by rw [ey11]; rfl) (by decide) rfl ?_
                refine g_goto X 16 dX12_handNumber_86 (by decide) ?_
                cases hf
                exact g_sub [2, 3, 4, 5, 1, 0] rfl (hc0 rfl)
              · have hf := zneg hq hf
                refine g_iconst X (v := 1) dX12_handNumber_76 (by decide) ?_
                refine g_goto X 81 dX12_handNumber_77 (by decide) ?_
                refine g_istore X [(4, .int ((1 : Int32))), (0, .ref (base + r0)), (1, .ref (base + r1)), (2, .int x2), (3, .int x3_2), (5, .int x5_16)] dX12_handNumber_81 (by decide) rfl ?_
                obtain ⟨y12, ey12⟩ : ∃ y : Int32, y = x5_16 + (1 : Int32) := ⟨_, rfl⟩
                have hf := zlet_n ey12 hf
                refine g_iinc X (j := 5) [(5, .int y12), (4, .int ((1 : Int32))), (0, .ref (base + r0)), (1, .ref (base + r1)), (2, .int x2), (3, .int x3_2)] dX12_handNumber_83 rfl (by rw [ey12]; rfl) (by decide) rfl ?_
                refine g_goto X 16 dX12_handNumber_86 (by decide) ?_
                cases hf
                exact g_sub [2, 3, 4, 5, 1, 0] rfl (hc0 rfl)
            · have hf := zneg hq hf
              refine g_aload_n X 0 dX12_handNumber_43 rfl ?_
              refine g_iload_n X 3 dX12_handNumber_44 rfl ?_
              refine g_iload X 5 dX12_handNumber_45 rfl ?_
              obtain ⟨v14, h13, hch13, hf⟩ := zc2_e hf
              refine g_callV X 2 (sX12_cardOf hch13) zf12 hk1 ydX12_cardOf w_ml_RX12_366 w_instanceMethod_X12_cardOf w_sel_X12_cardOf w_ini_RX12 w_code_X12_cardOf (by decide) rfl (st := []) rfl rfl (Nat.le_of_ble_eq_true rfl) dX12_handNumber_47 ?_
              refine g_aload_n X 1 dX12_handNumber_50 rfl ?_
              refine g_iload_n X 2 dX12_handNumber_51 rfl ?_
              refine g_iload X 5 dX12_handNumber_52 rfl ?_
              refine g_iadd X dX12_handNumber_54 ?_
              obtain ⟨hk15, hf⟩ := zite hf
              obtain ⟨hi16, hf⟩ := zite hf
              refine g_iald X hk15 hi16 dX12_handNumber_55 ?_
              refine g_icmp_ne X 80 dX12_handNumber_56 (by decide) (fun hq => ?_) (fun hq => ?_)
              · have hf := zneg hq hf
                refine g_iconst X (v := 0) dX12_handNumber_80 (by decide) ?_
                refine g_istore X [(4, .int ((0 : Int32))), (0, .ref (base + r0)), (1, .ref (base + r1)), (2, .int x2), (3, .int x3_2), (5, .int x5_16)] dX12_handNumber_81 (by decide) rfl ?_
                obtain ⟨y17, ey17⟩ : ∃ y : Int32, y = x5_16 + (1 : Int32) := ⟨_, rfl⟩
                have hf := zlet_n ey17 hf
                refine g_iinc X (j := 5) [(5, .int y17), (4, .int ((0 : Int32))), (0, .ref (base + r0)), (1, .ref (base + r1)), (2, .int x2), (3, .int x3_2)] dX12_handNumber_83 rfl (by rw [ey17]; rfl) (by decide) rfl ?_
                refine g_goto X 16 dX12_handNumber_86 (by decide) ?_
                cases hf
                exact g_sub [2, 3, 4, 5, 1, 0] rfl (hc0 rfl)
              · have hf := zpos hq hf
                refine g_goto X 76 dX12_handNumber_59 (by decide) ?_
                refine g_iconst X (v := 1) dX12_handNumber_76 (by decide) ?_
                refine g_goto X 81 dX12_handNumber_77 (by decide) ?_
                refine g_istore X [(4, .int ((1 : Int32))), (0, .ref (base + r0)), (1, .ref (base + r1)), (2, .int x2), (3, .int x3_2), (5, .int x5_16)] dX12_handNumber_81 (by decide) rfl ?_
                obtain ⟨y18, ey18⟩ : ∃ y : Int32, y = x5_16 + (1 : Int32) := ⟨_, rfl⟩
                have hf := zlet_n ey18 hf
                refine g_iinc X (j := 5) [(5, .int y18), (4, .int ((1 : Int32))), (0, .ref (base + r0)), (1, .ref (base + r1)), (2, .int x2), (3, .int x3_2)] dX12_handNumber_83 rfl (by rw [ey18]; rfl) (by decide) rfl ?_
                refine g_goto X 16 dX12_handNumber_86 (by decide) ?_
                cases hf
                exact g_sub [2, 3, 4, 5, 1, 0] rfl (hc0 rfl)
      · obtain ⟨ee, x4_k16, x5_k16, h_k16⟩ := qq
        have hf : kX12_handNumber_16 h r0 r1 x2 x3_2 ee x4_k16 x5_k16 h_k16 = some (e_2, q_2) := hf
        unfold kX12_handNumber_16 at hf
        show zG p l e { frames := 2, cells := 0, slots := 0, locals := 45 } s m args below meth c (MQ below (zQ D cA base h hE (some (.int rE))) args s 0 0 (zA base)) 6 D cA base h 89 [(0, .ref (base + r0)), (1, .ref (base + r1)), (2, .int x2), (3, .int x3_2), (4, .int x4_k16)] [] h_k16
        refine g_iload X 4 dX12_handNumber_89 rfl ?_
        refine g_if_eq X 96 dX12_handNumber_91 (by decide) (fun hq => ?_) (fun hq => ?_)
        · have hf := zpos hq hf
          obtain ⟨y19, ey19⟩ : ∃ y : Int32, y = x3_2 + (1 : Int32) := ⟨_, rfl⟩
          have hf := zlet_n ey19 hf
          refine g_iinc X (j := 3) [(3, .int y19), (0, .ref (base + r0)), (1, .ref (base + r1)), (2, .int x2), (4, .int x4_k16)] dX12_handNumber_96 rfl (by rw [ey19]; rfl) (by decide) rfl ?_
          refine g_goto X 2 dX12_handNumber_99 (by decide) ?_
          cases hf
          exact g_sub [1, 2, 3, 0] rfl (hc0 rfl)
        · have hf := zneg hq hf
          cases hf
          have hc1 := hc1 (by decide)
          exact g_sub [3] rfl (zun_p rfl hc1)
  · obtain ⟨ee, x3_k2, h_k2⟩ := qq
    have hf : kX12_handNumber_2 h ee x3_k2 h_k2 = some (rE, hE) := hf
    unfold kX12_handNumber_2 at hf
    by_cases hee0 : ee = 1
    · have hf := zpos hee0 hf
      refine zifp hee0 ?_
      show zG p l e { frames := 2, cells := 0, slots := 0, locals := 45 } s m args below meth c (MQ below (zQ D cA base h hE (some (.int rE))) args s 0 0 (zA base)) 6 D cA base h 94 [(3, .int x3_k2)] [] h_k2
      refine g_iload_n X 0 dX12_handNumber_94 rfl ?_
      obtain ⟨rfl, rfl⟩ := zsm hf
      exact g_iret X hr dX12_handNumber_95
    have hf := zneg hee0 hf
    refine zifn hee0 ?_
    show zG p l e { frames := 2, cells := 0, slots := 0, locals := 45 } s m args below meth c (MQ below (zQ D cA base h hE (some (.int rE))) args s 0 0 (zA base)) 6 D cA base h 102 [] [] h_k2
    refine g_iconst X (v := -1) dX12_handNumber_102 (by decide) ?_
    obtain ⟨rfl, rfl⟩ := zsm hf
    exact g_iret X hr dX12_handNumber_103

set_option maxHeartbeats 4000000 in
set_option maxRecDepth 100000 in
theorem sX12_rowNumber {l : Launch} {D : va_G} {cA : Nat → ClassId} {base : Nat} {sA : Nat → Nat} {r0 : Nat} {r1 : Nat} {x2 : Int32} {h hE : Zh} {rE : Int32} (hf : fX12_rowNumber r0 r1 x2 h = some (rE, hE)) : zC l yX12_rowNumber cX12_rowNumber 7 (some .int) 0 0 D cA base sA [.ref (base + r0), .ref (base + r1), .int x2] h (some (.int rE)) hE := by
  refine g_entry RX12 (by decide) rfl (Nat.le_of_ble_eq_true rfl) ?_
  intro p e s m args below meth c X hr
  unfold fX12_rowNumber at hf
  have hf := zlet_n (x := h) rfl hf
  show zG p l e { frames := 0, cells := 0, slots := 0, locals := 0 } s m args below meth c (MQ below (zQ D cA base h hE (some (.int rE))) args s 0 0 (zA base)) 7 D cA base h 0 [(0, .ref (base + r0)), (1, .ref (base + r1)), (2, .int x2)] [] h
  refine g_iconst X (v := 0) dX12_rowNumber_0 (by decide) ?_
  refine g_istore_n X [(3, .int ((0 : Int32))), (0, .ref (base + r0)), (1, .ref (base + r1)), (2, .int x2)] dX12_rowNumber_1 (by decide) rfl ?_
  refine g_iconst X (v := 0) dX12_rowNumber_2 (by decide) ?_
  refine g_istore X [(4, .int ((0 : Int32))), (3, .int ((0 : Int32))), (0, .ref (base + r0)), (1, .ref (base + r1)), (2, .int x2)] dX12_rowNumber_3 (by decide) rfl ?_
  refine g_sub [2, 3, 4, 1, 0] rfl ?_
  obtain ⟨qq, hlp, hf⟩ := zbd hf
  refine lp_snd (body := (fun q : Int32 × Int32 × Zh => bX12_rowNumber_5 h r0 r1 x2 q.1 q.2.1 q.2.2)) (P := (fun q : Int32 × Int32 × Zh => zG p l e { frames := 0, cells := 0, slots := 0, locals := 0 } s m args below meth c (MQ below (zQ D cA base h hE (some (.int rE))) args s 0 0 (zA base)) 7 D cA base h 5 [(0, .ref (base + r0)), (1, .ref (base + r1)), (2, .int x2), (3, .int q.1), (4, .int q.2.1)] [] q.2.2)) (E := (fun (en : Nat) (q : Int32 × Int32 × Zh) => zG p l e { frames := 0, cells := 0, slots := 0, locals := 0 } s m args below meth c (MQ below (zQ D cA base h hE (some (.int rE))) args s 0 0 (zA base)) 7 D cA base h 88 [(3, .int q.1)] [] q.2.2)) ?_ zB ((0 : Int32), ((0 : Int32), h)) qq.1 qq.2 hlp ?_
  · intro q e_5 q_5 hf hc0 hc1
    obtain ⟨x3_5, x4_5, h_5⟩ := q
    have hf : bX12_rowNumber_5 h r0 r1 x2 x3_5 x4_5 h_5 = some (e_5, q_5) := hf
    unfold bX12_rowNumber_5 at hf
    show zG p l e { frames := 0, cells := 0, slots := 0, locals := 0 } s m args below meth c (MQ below (zQ D cA base h hE (some (.int rE))) args s 0 0 (zA base)) 7 D cA base h 5 [(0, .ref (base + r0)), (1, .ref (base + r1)), (2, .int x2), (3, .int x3_5), (4, .int x4_5)] [] h_5
    refine g_iload X 4 dX12_rowNumber_5 rfl ?_
    refine g_aload_n X 0 dX12_rowNumber_7 rfl ?_
    obtain ⟨hk1, hf⟩ := zite hf
    obtain ⟨r_2, hr_2, hf⟩ := zbd hf
    refine g_get X zf12 hk1 3 (by decide) w_f_RX12_329 rfl (zfv_r hr_2 rfl) dX12_rowNumber_8 ?_
    obtain ⟨hk3, hf⟩ := zite hf
    refine g_getN X zf11 hk3 4 (by decide) w_fn_RX12_257 rfl rfl dX12_rowNumber_11 ?_
    refine g_icmp_ge X 88 dX12_rowNumber_14 (by decide) (fun hq => ?_) (fun hq => ?_)
    · have hf := zpos hq hf
      cases hf
      have hc1 := hc1 (by decide)
      exact g_sub [3] rfl hc1
    · have hf := zneg hq hf
      refine g_aload_n X 1 dX12_rowNumber_17 rfl ?_
      refine g_iload_n X 2 dX12_rowNumber_18 rfl ?_
      refine g_iload X 4 dX12_rowNumber_19 rfl ?_
      refine g_iadd X dX12_rowNumber_21 ?_
      obtain ⟨hk4, hf⟩ := zite hf
      obtain ⟨hi5, hf⟩ := zite hf
      refine g_iald X hk4 hi5 dX12_rowNumber_22 ?_
      refine g_topi (fun y6 ey6 => ?_)
      have hf := zlet_n ey6 hf
      refine g_istore X [(5, .int y6), (0, .ref (base + r0)), (1, .ref (base + r1)), (2, .int x2), (3, .int x3_5), (4, .int x4_5)] dX12_rowNumber_23 (by decide) rfl ?_
      refine g_iconst X (v := 0) dX12_rowNumber_25 (by decide) ?_
      refine g_istore X [(6, .int ((0 : Int32))), (5, .int y6), (0, .ref (base + r0)), (1, .ref (base + r1)), (2, .int x2), (3, .int x3_5), (4, .int x4_5)] dX12_rowNumber_26 (by decide) rfl ?_
      refine g_sub [2, 3, 4, 5, 6, 1, 0] rfl ?_
      obtain ⟨qq, hlp, hf⟩ := zbd hf
      refine lp_snd (body := (fun q : Int32 × Int32 × Zh => bX12_rowNumber_28 h r1 x2 x4_5 q.1 q.2.1 q.2.2)) (P := (fun q : Int32 × Int32 × Zh => zG p l e { frames := 0, cells := 0, slots := 0, locals := 0 } s m args below meth c (MQ below (zQ D cA base h hE (some (.int rE))) args s 0 0 (zA base)) 7 D cA base h 28 [(0, .ref (base + r0)), (1, .ref (base + r1)), (2, .int x2), (3, .int x3_5), (4, .int x4_5), (5, .int q.1), (6, .int q.2.1)] [] q.2.2)) (E := (fun (en : Nat) (q : Int32 × Int32 × Zh) => zG p l e { frames := 0, cells := 0, slots := 0, locals := 0 } s m args below meth c (MQ below (zQ D cA base h hE (some (.int rE))) args s 0 0 (zA base)) 7 D cA base h 66 [(0, .ref (base + r0)), (1, .ref (base + r1)), (2, .int x2), (3, .int x3_5), (4, .int x4_5), (5, .int q.1)] [] q.2.2)) ?_ zB (y6, ((0 : Int32), h_5)) qq.1 qq.2 hlp ?_
      · intro q e_28 q_28 hf hc0 hc1
        obtain ⟨x5_28, x6_28, h_28⟩ := q
        have hf : bX12_rowNumber_28 h r1 x2 x4_5 x5_28 x6_28 h_28 = some (e_28, q_28) := hf
        unfold bX12_rowNumber_28 at hf
        show zG p l e { frames := 0, cells := 0, slots := 0, locals := 0 } s m args below meth c (MQ below (zQ D cA base h hE (some (.int rE))) args s 0 0 (zA base)) 7 D cA base h 28 [(0, .ref (base + r0)), (1, .ref (base + r1)), (2, .int x2), (3, .int x3_5), (4, .int x4_5), (5, .int x5_28), (6, .int x6_28)] [] h_28
        refine g_iload X 6 dX12_rowNumber_28 rfl ?_
        refine g_iload X 4 dX12_rowNumber_30 rfl ?_
        refine g_icmp_ge X 66 dX12_rowNumber_32 (by decide) (fun hq => ?_) (fun hq => ?_)
        · have hf := zpos hq hf
          cases hf
          have hc1 := hc1 (by decide)
          exact g_sub [0, 1, 2, 3, 4, 5] rfl hc1
        · have hf := zneg hq hf
          refine g_iload X 5 dX12_rowNumber_35 rfl ?_
          refine g_aload_n X 1 dX12_rowNumber_37 rfl ?_
          refine g_iload_n X 2 dX12_rowNumber_38 rfl ?_
          refine g_iload X 6 dX12_rowNumber_39 rfl ?_
          refine g_iadd X dX12_rowNumber_41 ?_
          obtain ⟨hi7, hf⟩ := zite hf
          refine g_iald X hk4 hi7 dX12_rowNumber_42 ?_
          refine g_aload_n X 1 dX12_rowNumber_43 rfl ?_
          refine g_iload_n X 2 dX12_rowNumber_44 rfl ?_
          refine g_iload X 4 dX12_rowNumber_45 rfl ?_
          refine g_iadd X dX12_rowNumber_47 ?_
          obtain ⟨hi8, hf⟩ := zite hf
          refine g_iald X hk4 hi8 dX12_rowNumber_48 ?_
          refine g_icmp_ge X 56 dX12_rowNumber_49 (by decide) (fun hq => ?_) (fun hq => ?_)
          · have hf := zpos hq hf
            refine g_iconst X (v := 0) dX12_rowNumber_56 (by decide) ?_
            refine g_isub X dX12_rowNumber_57 ?_
            refine g_topi (fun y9 ey9 => ?_)
            have hf := zlet_n ey9 hf
            refine g_istore X [(5, .int y9), (0, .ref (base + r0)), (1, .ref (base + r1)), (2, .int x2), (3, .int x3_5), (4, .int x4_5), (6, .int x6_28)] dX12_rowNumber_58 (by decide) rfl ?_
            obtain ⟨y10, ey10⟩ : ∃ y : Int32, y = x6_28 + (1 : Int32) := ⟨_, rfl⟩
            have hf := zlet_n ey10 hf
            refine g_iinc X (j := 6) [(6, .int y10), (5, .int y9), (0, .ref (base + r0)), (1, .ref (base + r1)), (2, .int x2), (3, .int x3_5), (4, .int x4_5)] dX12_rowNumber_60 rfl (by rw [ey10]; rfl) (by decide) rfl ?_
            refine g_goto X 28 dX12_rowNumber_63 (by decide) ?_
            cases hf
            exact g_sub [2, 3, 4, 5, 6, 1, 0] rfl (hc0 rfl)
          · have hf := zneg hq hf
            refine g_iconst X (v := 1) dX12_rowNumber_52 (by decide) ?_
            refine g_goto X 57 dX12_rowNumber_53 (by decide) ?_
            refine g_isub X dX12_rowNumber_57 ?_
            refine g_topi (fun y11 ey11 => ?_)
            have hf := zlet_n ey11 hf
            refine g_istore X [(5, .int y11), (0, .ref (base + r0)), (1, .ref (base + r1)), (2, .int x2), (3, .int x3_5), (4, .int x4_5), (6, .int x6_28)] dX12_rowNumber_58 (by decide) rfl ?_
            obtain ⟨y12, ey12⟩ : ∃ y : Int32, y = x6_28 + (1 : Int32) := ⟨_, rfl⟩
            have hf := zlet_n ey12 hf
            refine g_iinc X (j := 6) [(6, .int y12), (5, .int y11), (0, .ref (base + r0)), (1, .ref (base + r1)), (2, .int x2), (3, .int x3_5), (4, .int x4_5)] dX12_rowNumber_60 rfl (by rw [ey12]; rfl) (by decide) rfl ?_
            refine g_goto X 28 dX12_rowNumber_63 (by decide) ?_
            cases hf
            exact g_sub [2, 3, 4, 5, 6, 1, 0] rfl (hc0 rfl)
      · obtain ⟨ee, x5_k28, x6_k28, h_k28⟩ := qq
        have hf : kX12_rowNumber_28 h r0 r1 x2 x3_5 x4_5 ee x5_k28 x6_k28 h_k28 = some (e_5, q_5) := hf
        unfold kX12_rowNumber_28 at hf
        show zG p l e { frames := 0, cells := 0, slots := 0, locals := 0 } s m args below meth c (MQ below (zQ D cA base h hE (some (.int rE))) args s 0 0 (zA base)) 7 D cA base h 66 [(0, .ref (base + r0)), (1, .ref (base + r1)), (2, .int x2), (3, .int x3_5), (4, .int x4_5), (5, .int x5_k28)] [] h_k28
        refine g_iload_n X 3 dX12_rowNumber_66 rfl ?_
        refine g_aload_n X 0 dX12_rowNumber_67 rfl ?_
        obtain ⟨r_13, hr_13, hf⟩ := zbd hf
        refine g_get X zf12 hk1 3 (by decide) w_f_RX12_329 rfl (zfv_r hr_13 rfl) dX12_rowNumber_68 ?_
        obtain ⟨hk14, hf⟩ := zite hf
        refine g_getN X zf11 hk14 0 (by decide) w_fn_RX12_194 rfl rfl dX12_rowNumber_71 ?_
        refine g_iload X 4 dX12_rowNumber_74 rfl ?_
        refine g_isub X dX12_rowNumber_76 ?_
        refine g_imul X dX12_rowNumber_77 ?_
        refine g_iload X 5 dX12_rowNumber_78 rfl ?_
        refine g_iadd X dX12_rowNumber_80 ?_
        refine g_topi (fun y15 ey15 => ?_)
        have hf := zlet_n ey15 hf
        refine g_istore_n X [(3, .int y15), (0, .ref (base + r0)), (1, .ref (base + r1)), (2, .int x2), (4, .int x4_5), (5, .int x5_k28)] dX12_rowNumber_81 (by decide) rfl ?_
        obtain ⟨y16, ey16⟩ : ∃ y : Int32, y = x4_5 + (1 : Int32) := ⟨_, rfl⟩
        have hf := zlet_n ey16 hf
        refine g_iinc X (j := 4) [(4, .int y16), (3, .int y15), (0, .ref (base + r0)), (1, .ref (base + r1)), (2, .int x2), (5, .int x5_k28)] dX12_rowNumber_82 rfl (by rw [ey16]; rfl) (by decide) rfl ?_
        refine g_goto X 5 dX12_rowNumber_85 (by decide) ?_
        cases hf
        exact g_sub [2, 3, 4, 1, 0] rfl (hc0 rfl)
  · obtain ⟨ee, x3_k5, x4_k5, h_k5⟩ := qq
    have hf : kX12_rowNumber_5 h ee x3_k5 x4_k5 h_k5 = some (rE, hE) := hf
    unfold kX12_rowNumber_5 at hf
    show zG p l e { frames := 0, cells := 0, slots := 0, locals := 0 } s m args below meth c (MQ below (zQ D cA base h hE (some (.int rE))) args s 0 0 (zA base)) 7 D cA base h 88 [(3, .int x3_k5)] [] h_k5
    refine g_iload_n X 0 dX12_rowNumber_88 rfl ?_
    obtain ⟨rfl, rfl⟩ := zsm hf
    exact g_iret X hr dX12_rowNumber_89

set_option maxHeartbeats 4000000 in
set_option maxRecDepth 100000 in
theorem sX12_rowCards {l : Launch} {D : va_G} {cA : Nat → ClassId} {base : Nat} {sA : Nat → Nat} {r0 : Nat} {x1 : Int32} {r2 : Nat} {h hE : Zh} (hf : fX12_rowCards r0 x1 r2 h = some hE) : zC l yX12_rowCards cX12_rowCards 9 none 1 20 D cA base sA [.ref (base + r0), .int x1, .ref (base + r2)] h none hE := by
  refine g_entry RX12 (by decide) rfl (Nat.le_of_ble_eq_true rfl) ?_
  intro p e s m args below meth c X hr
  unfold fX12_rowCards at hf
  have hf := zlet_n (x := h) rfl hf
  show zG p l e { frames := 1, cells := 0, slots := 0, locals := 20 } s m args below meth c (MQ below (zQ D cA base h hE none) args s 0 0 (zA base)) 9 D cA base h 0 [(0, .ref (base + r0)), (1, .int x1), (2, .ref (base + r2))] [] h
  refine g_iload_n X 1 dX12_rowCards_0 rfl ?_
  refine g_aload_n X 0 dX12_rowCards_1 rfl ?_
  obtain ⟨hk1, hf⟩ := zite hf
  obtain ⟨r_2, hr_2, hf⟩ := zbd hf
  refine g_get X zf12 hk1 3 (by decide) w_f_RX12_329 rfl (zfv_r hr_2 rfl) dX12_rowCards_2 ?_
  obtain ⟨hk3, hf⟩ := zite hf
  obtain ⟨v5, h4, hch4, hf⟩ := zc2_e hf
  refine g_callV X 0 (sX11_tilts hch4) zf11 hk3 ydX11_tilts w_ml_RX12_354 w_instanceMethod_X11_tilts w_sel_X11_tilts w_ini_RX11 w_code_X11_tilts (by decide) rfl (st := [.int x1]) rfl rfl (Nat.le_of_ble_eq_true rfl) dX12_rowCards_5 ?_
  obtain ⟨hn6, hf⟩ := zite hf
  refine g_idiv X hn6 dX12_rowCards_8 ?_
  refine g_topi (fun y7 ey7 => ?_)
  have hf := zlet_n ey7 hf
  refine g_istore_n X [(3, .int y7), (0, .ref (base + r0)), (1, .int x1), (2, .ref (base + r2))] dX12_rowCards_9 (by decide) rfl ?_
  refine g_aload_n X 1 dX12_rowCards_10 rfl ?_
  obtain ⟨r_8, hr_8, hf⟩ := zbd hf
  refine g_get X zf12 hk1 20 (by decide) w_f_RX12_27 rfl (zfv_r hr_8 rfl) dX12_rowCards_11 ?_
  refine g_astore X [(4, .ref (base + r_8)), (3, .int y7), (0, .ref (base + r0)), (1, .int x1), (2, .ref (base + r2))] dX12_rowCards_14 (by decide) rfl ?_
  refine g_aload_n X 2 dX12_rowCards_16 rfl ?_
  obtain ⟨r_9, hr_9, hf⟩ := zbd hf
  refine g_get X zf12 hk1 3 (by decide) w_f_RX12_329 rfl (zfv_r hr_9 rfl) dX12_rowCards_17 ?_
  obtain ⟨hk10, hf⟩ := zite hf
  refine g_getN X zf11 hk10 4 (by decide) w_fn_RX12_257 rfl rfl dX12_rowCards_20 ?_
  refine g_iconst X (v := 1) dX12_rowCards_23 (by decide) ?_
  refine g_isub X dX12_rowCards_24 ?_
  refine g_topi (fun y11 ey11 => ?_)
  have hf := zlet_n ey11 hf
  refine g_istore X [(5, .int y11), (4, .ref (base + r_8)), (3, .int y7), (0, .ref (base + r0)), (1, .int x1), (2, .ref (base + r2))] dX12_rowCards_25 (by decide) rfl ?_
  refine g_sub [3, 5, 2, 1, 0] rfl ?_
  obtain ⟨qq, hlp, hf⟩ := zbd hf
  refine lp_snd (body := (fun q : Int32 × Int32 × Zh => bX12_rowCards_27 h r0 r_8 q.1 q.2.1 q.2.2)) (P := (fun q : Int32 × Int32 × Zh => zG p l e { frames := 1, cells := 0, slots := 0, locals := 20 } s m args below meth c (MQ below (zQ D cA base h hE none) args s 0 0 (zA base)) 9 D cA base h 27 [(0, .ref (base + r0)), (2, .ref (base + r2)), (3, .int q.1), (4, .ref (base + r_8)), (5, .int q.2.1)] [] q.2.2)) (E := (fun (en : Nat) (q : Int32 × Int32 × Zh) => zG p l e { frames := 1, cells := 0, slots := 0, locals := 20 } s m args below meth c (MQ below (zQ D cA base h hE none) args s 0 0 (zA base)) 9 D cA base h 68 [(0, .ref (base + r0)), (2, .ref (base + r2)), (4, .ref (base + r_8))] [] q.2.2)) ?_ zB (y7, (y11, h4)) qq.1 qq.2 hlp ?_
  · intro q e_27 q_27 hf hc0 hc1
    obtain ⟨x3_27, x5_27, h_27⟩ := q
    have hf : bX12_rowCards_27 h r0 r_8 x3_27 x5_27 h_27 = some (e_27, q_27) := hf
    unfold bX12_rowCards_27 at hf
    show zG p l e { frames := 1, cells := 0, slots := 0, locals := 20 } s m args below meth c (MQ below (zQ D cA base h hE none) args s 0 0 (zA base)) 9 D cA base h 27 [(0, .ref (base + r0)), (2, .ref (base + r2)), (3, .int x3_27), (4, .ref (base + r_8)), (5, .int x5_27)] [] h_27
    refine g_iload X 4 dX12_rowCards_27 rfl ?_
    refine g_if_lt X 68 dX12_rowCards_29 (by decide) (fun hq => ?_) (fun hq => ?_)
    · have hf := zpos hq hf
      cases hf
      have hc1 := hc1 (by decide)
      exact g_sub [0, 1, 3] rfl hc1
    · have hf := zneg hq hf
      refine g_aload X 3 dX12_rowCards_32 rfl ?_
      refine g_iload X 4 dX12_rowCards_34 rfl ?_
      refine g_iload_n X 2 dX12_rowCards_36 rfl ?_
      refine g_aload_n X 0 dX12_rowCards_37 rfl ?_
      obtain ⟨r_12, hr_12, hf⟩ := zbd hf
      refine g_get X zf12 hk1 3 (by decide) w_f_RX12_329 rfl (zfv_r hr_12 rfl) dX12_rowCards_38 ?_
      obtain ⟨hk13, hf⟩ := zite hf
      refine g_getN X zf11 hk13 0 (by decide) w_fn_RX12_194 rfl rfl dX12_rowCards_41 ?_
      refine g_iload X 4 dX12_rowCards_44 rfl ?_
      refine g_isub X dX12_rowCards_46 ?_
      obtain ⟨hn14, hf⟩ := zite hf
      refine g_irem X hn14 dX12_rowCards_47 ?_
      obtain ⟨hk15, hf⟩ := zite hf
      obtain ⟨hi16, hf⟩ := zite hf
      refine g_iast X hk15 hi16 dX12_rowCards_48 ?_
      refine g_hp (fun h17 eh17 => ?_)
      have hf := zlet_n eh17 hf
      refine g_iload_n X 2 dX12_rowCards_49 rfl ?_
      refine g_aload_n X 0 dX12_rowCards_50 rfl ?_
      obtain ⟨r_18, hr_18, hf⟩ := zbd hf
      refine g_get X zf12 hk1 3 (by decide) w_f_RX12_329 rfl (zfv_r hr_18 rfl) dX12_rowCards_51 ?_
      obtain ⟨hk19, hf⟩ := zite hf
      refine g_getN X zf11 hk19 0 (by decide) w_fn_RX12_194 rfl rfl dX12_rowCards_54 ?_
      refine g_iload X 4 dX12_rowCards_57 rfl ?_
      refine g_isub X dX12_rowCards_59 ?_
      obtain ⟨hn20, hf⟩ := zite hf
      refine g_idiv X hn20 dX12_rowCards_60 ?_
      refine g_topi (fun y21 ey21 => ?_)
      have hf := zlet_n ey21 hf
      refine g_istore_n X [(3, .int y21), (0, .ref (base + r0)), (2, .ref (base + r2)), (4, .ref (base + r_8)), (5, .int x5_27)] dX12_rowCards_61 (by decide) rfl ?_
      obtain ⟨y22, ey22⟩ : ∃ y : Int32, y = x5_27 + (-1 : Int32) := ⟨_, rfl⟩
      have hf := zlet_n ey22 hf
      refine g_iinc X (j := 4) [(5, .int y22), (3, .int y21), (0, .ref (base + r0)), (2, .ref (base + r2)), (4, .ref (base + r_8))] dX12_rowCards_62 rfl (by rw [ey22]; rfl) (by decide) rfl ?_
      refine g_goto X 27 dX12_rowCards_65 (by decide) ?_
      cases hf
      exact g_sub [2, 3, 1, 4, 0] rfl (hc0 rfl)
  · obtain ⟨ee, x3_k27, x5_k27, h_k27⟩ := qq
    have hf : kX12_rowCards_27 h r0 r2 r_8 ee x3_k27 x5_k27 h_k27 = some hE := hf
    unfold kX12_rowCards_27 at hf
    show zG p l e { frames := 1, cells := 0, slots := 0, locals := 20 } s m args below meth c (MQ below (zQ D cA base h hE none) args s 0 0 (zA base)) 9 D cA base h 68 [(0, .ref (base + r0)), (2, .ref (base + r2)), (4, .ref (base + r_8))] [] h_k27
    refine g_iconst X (v := 0) dX12_rowCards_68 (by decide) ?_
    refine g_istore X [(5, .int ((0 : Int32))), (0, .ref (base + r0)), (2, .ref (base + r2)), (4, .ref (base + r_8))] dX12_rowCards_69 (by decide) rfl ?_
    refine g_iconst X (v := 0) dX12_rowCards_71 (by decide) ?_
    refine g_istore X [(6, .int ((0 : Int32))), (5, .int ((0 : Int32))), (0, .ref (base + r0)), (2, .ref (base + r2)), (4, .ref (base + r_8))] dX12_rowCards_72 (by decide) rfl ?_
    refine g_sub [2, 3, 4, 1, 0] rfl ?_
    obtain ⟨qq, hlp, hf⟩ := zbd hf
    refine lp_snd (body := (fun q : Int32 × Int32 × Zh => bX12_rowCards_74 h r0 r2 r_8 q.1 q.2.1 q.2.2)) (P := (fun q : Int32 × Int32 × Zh => zG p l e { frames := 1, cells := 0, slots := 0, locals := 20 } s m args below meth c (MQ below (zQ D cA base h hE none) args s 0 0 (zA base)) 9 D cA base h 74 [(0, .ref (base + r0)), (2, .ref (base + r2)), (4, .ref (base + r_8)), (5, .int q.1), (6, .int q.2.1)] [] q.2.2)) (E := (fun (en : Nat) (q : Int32 × Int32 × Zh) => zG p l e { frames := 1, cells := 0, slots := 0, locals := 20 } s m args below meth c (MQ below (zQ D cA base h hE none) args s 0 0 (zA base)) 9 D cA base h 152 [] [] q.2.2)) ?_ zB ((0 : Int32), ((0 : Int32), h_k27)) qq.1 qq.2 hlp ?_
    · intro q e_74 q_74 hf hc0 hc1
      obtain ⟨x5_74, x6_74, h_74⟩ := q
      have hf : bX12_rowCards_74 h r0 r2 r_8 x5_74 x6_74 h_74 = some (e_74, q_74) := hf
      unfold bX12_rowCards_74 at hf
      show zG p l e { frames := 1, cells := 0, slots := 0, locals := 20 } s m args below meth c (MQ below (zQ D cA base h hE none) args s 0 0 (zA base)) 9 D cA base h 74 [(0, .ref (base + r0)), (2, .ref (base + r2)), (4, .ref (base + r_8)), (5, .int x5_74), (6, .int x6_74)] [] h_74
      refine g_iload X 4 dX12_rowCards_74 rfl ?_
      refine g_aload_n X 0 dX12_rowCards_76 rfl ?_
      obtain ⟨r_23, hr_23, hf⟩ := zbd hf
      refine g_get X zf12 hk1 3 (by decide) w_f_RX12_329 rfl (zfv_r hr_23 rfl) dX12_rowCards_77 ?_
      obtain ⟨hk24, hf⟩ := zite hf
      refine g_getN X zf11 hk24 4 (by decide) w_fn_RX12_257 rfl rfl dX12_rowCards_80 ?_
      refine g_icmp_ge X 152 dX12_rowCards_83 (by decide) (fun hq => ?_) (fun hq => ?_)
      · have hf := zpos hq hf
        cases hf
        have hc1 := hc1 (by decide)
        exact g_sub [] rfl hc1
      · have hf := zneg hq hf
        refine g_iconst X (v := 0) dX12_rowCards_86 (by decide) ?_
        refine g_istore X [(7, .int ((0 : Int32))), (0, .ref (base + r0)), (2, .ref (base + r2)), (4, .ref (base + r_8)), (5, .int x5_74), (6, .int x6_74)] dX12_rowCards_87 (by decide) rfl ?_
        refine g_aload X 3 dX12_rowCards_89 rfl ?_
        refine g_iload X 5 dX12_rowCards_91 rfl ?_
        obtain ⟨hk25, hf⟩ := zite hf
        obtain ⟨hi26, hf⟩ := zite hf
        refine g_iald X hk25 hi26 dX12_rowCards_93 ?_
        refine g_topi (fun y27 ey27 => ?_)
        have hf := zlet_n ey27 hf
        refine g_istore X [(8, .int y27), (7, .int ((0 : Int32))), (0, .ref (base + r0)), (2, .ref (base + r2)), (4, .ref (base + r_8)), (5, .int x5_74), (6, .int x6_74)] dX12_rowCards_94 (by decide) rfl ?_
        refine g_sub [2, 3, 4, 5, 6, 1, 0] rfl ?_
        obtain ⟨qq, hlp, hf⟩ := zbd hf
        refine lp_snd (body := (fun q : Int32 × Int32 × Zh => bX12_rowCards_96 h x5_74 q.1 q.2.1 q.2.2)) (P := (fun q : Int32 × Int32 × Zh => zG p l e { frames := 1, cells := 0, slots := 0, locals := 20 } s m args below meth c (MQ below (zQ D cA base h hE none) args s 0 0 (zA base)) 9 D cA base h 96 [(0, .ref (base + r0)), (2, .ref (base + r2)), (4, .ref (base + r_8)), (5, .int x5_74), (6, .int x6_74), (7, .int q.1), (8, .int q.2.1)] [] q.2.2)) (E := (fun (en : Nat) (q : Int32 × Int32 × Zh) => zG p l e { frames := 1, cells := 0, slots := 0, locals := 20 } s m args below meth c (MQ below (zQ D cA base h hE none) args s 0 0 (zA base)) 9 D cA base h 131 [(0, .ref (base + r0)), (2, .ref (base + r2)), (4, .ref (base + r_8)), (5, .int x5_74), (6, .int x6_74), (7, .int q.1)] [] q.2.2)) ?_ zB ((0 : Int32), (y27, h_74)) qq.1 qq.2 hlp ?_
        · intro q e_96 q_96 hf hc0 hc1
          obtain ⟨x7_96, x8_96, h_96⟩ := q
          have hf : bX12_rowCards_96 h x5_74 x7_96 x8_96 h_96 = some (e_96, q_96) := hf
          unfold bX12_rowCards_96 at hf
          show zG p l e { frames := 1, cells := 0, slots := 0, locals := 20 } s m args below meth c (MQ below (zQ D cA base h hE none) args s 0 0 (zA base)) 9 D cA base h 96 [(0, .ref (base + r0)), (2, .ref (base + r2)), (4, .ref (base + r_8)), (5, .int x5_74), (6, .int x6_74), (7, .int x7_96), (8, .int x8_96)] [] h_96
          refine g_iload X 3 dX12_rowCards_96 rfl ?_
          refine g_iload X 5 dX12_rowCards_98 rfl ?_
          refine g_ishr X dX12_rowCards_100 ?_
          refine g_iconst X (v := 1) dX12_rowCards_101 (by decide) ?_
          refine g_iand X dX12_rowCards_102 ?_
          refine g_iconst X (v := 1) dX12_rowCards_103 (by decide) ?_
          have hJ112 : ∀ (x7_112 : Int32) (x8_112 : Int32) (h_112 : Zh), jX12_rowCards_112 h x5_74 x7_112 x8_112 h_112 = some (e_96, q_96) → zG p l e { frames := 1, cells := 0, slots := 0, locals := 20 } s m args below meth c (MQ below (zQ D cA base h hE none) args s 0 0 (zA base)) 9 D cA base h 112 [(0, .ref (base + r0)), (2, .ref (base + r2)), (4, .ref (base + r_8)), (5, .int x5_74), (6, .int x6_74), (7, .int x7_112), (8, .int x8_112)] [] h_112 := by
            intro x7_112 x8_112 h_112 hf
            unfold jX12_rowCards_112 at hf
            refine g_iload X 3 dX12_rowCards_112 rfl ?_
            refine g_iload X 5 dX12_rowCards_114 rfl ?_
            refine g_ishr X dX12_rowCards_116 ?_
            refine g_iconst X (v := 1) dX12_rowCards_117 (by decide) ?_
            refine g_iand X dX12_rowCards_118 ?_
            refine g_if_ne X 125 dX12_rowCards_119 (by decide) (fun hq => ?_) (fun hq => ?_)
            · have hf := zneg hq hf
              obtain ⟨y28, ey28⟩ : ∃ y : Int32, y = x7_112 + (1 : Int32) := ⟨_, rfl⟩
              have hf := zlet_n ey28 hf
              refine g_iinc X (j := 5) [(7, .int y28), (0, .ref (base + r0)), (2, .ref (base + r2)), (4, .ref (base + r_8)), (5, .int x5_74), (6, .int x6_74), (8, .int x8_112)] dX12_rowCards_125 rfl (by rw [ey28]; rfl) (by decide) rfl ?_
              refine g_goto X 96 dX12_rowCards_128 (by decide) ?_
              cases hf
              exact g_sub [1, 2, 3, 4, 5, 0, 6] rfl (hc0 rfl)
            · have hf := zpos hq hf
              obtain ⟨y29, ey29⟩ : ∃ y : Int32, y = x8_112 + (-1 : Int32) := ⟨_, rfl⟩
              have hf := zlet_n ey29 hf
              refine g_iinc X (j := 6) [(8, .int y29), (0, .ref (base + r0)), (2, .ref (base + r2)), (4, .ref (base + r_8)), (5, .int x5_74), (6, .int x6_74), (7, .int x7_112)] dX12_rowCards_122 rfl (by rw [ey29]; rfl) (by decide) rfl ?_
              obtain ⟨y30, ey30⟩ : ∃ y : Int32, y = x7_112 + (1 : Int32) := ⟨_, rfl⟩
              have hf := zlet_n ey30 hf
              refine g_iinc X (j := 6) [(7, .int y30), (8, .int y29), (0, .ref (base + r0)), (2, .ref (base + r2)), (4, .ref (base + r_8)), (5, .int x5_74), (6, .int x6_74)] dX12_rowCards_125 rfl (by rw [ey30]; rfl) (by decide) rfl ?_
              refine g_goto X 96 dX12_rowCards_128 (by decide) ?_
              cases hf
              exact g_sub [2, 3, 4, 5, 6, 0, 1] rfl (hc0 rfl)
          refine g_icmp_eq X 112 dX12_rowCards_104 (by decide) (fun hq => ?_) (fun hq => ?_)
          · have hf := zpos hq hf
            refine g_sub [0, 1, 2, 3, 4, 5, 6] rfl ?_
            exact hJ112 _ _ _ hf
          · have hf := zneg hq hf
            refine g_iload X 6 dX12_rowCards_107 rfl ?_
            refine g_if_le X 131 dX12_rowCards_109 (by decide) (fun hq => ?_) (fun hq => ?_)
            · have hf := zpos hq hf
              cases hf
              have hc1 := hc1 (by decide)
              exact g_sub [0, 1, 2, 3, 4, 5] rfl hc1
            · have hf := zneg hq hf
              refine g_sub [0, 1, 2, 3, 4, 5, 6] rfl ?_
              exact hJ112 _ _ _ hf
        · obtain ⟨ee, x7_k96, x8_k96, h_k96⟩ := qq
          have hf : kX12_rowCards_96 h r0 r2 r_8 x5_74 x6_74 ee x7_k96 x8_k96 h_k96 = some (e_74, q_74) := hf
          unfold kX12_rowCards_96 at hf
          show zG p l e { frames := 1, cells := 0, slots := 0, locals := 20 } s m args below meth c (MQ below (zQ D cA base h hE none) args s 0 0 (zA base)) 9 D cA base h 131 [(0, .ref (base + r0)), (2, .ref (base + r2)), (4, .ref (base + r_8)), (5, .int x5_74), (6, .int x6_74), (7, .int x7_k96)] [] h_k96
          refine g_iload X 3 dX12_rowCards_131 rfl ?_
          refine g_iconst X (v := 1) dX12_rowCards_133 (by decide) ?_
          refine g_iload X 5 dX12_rowCards_134 rfl ?_
          refine g_ishl X dX12_rowCards_136 ?_
          refine g_ior X dX12_rowCards_137 ?_
          refine g_topi (fun y31 ey31 => ?_)
          have hf := zlet_n ey31 hf
          refine g_istore X [(5, .int y31), (0, .ref (base + r0)), (2, .ref (base + r2)), (4, .ref (base + r_8)), (6, .int x6_74), (7, .int x7_k96)] dX12_rowCards_138 (by decide) rfl ?_
          refine g_aload_n X 2 dX12_rowCards_140 rfl ?_
          refine g_iload X 4 dX12_rowCards_141 rfl ?_
          refine g_iload X 5 dX12_rowCards_143 rfl ?_
          obtain ⟨hk32, hf⟩ := zite hf
          obtain ⟨hi33, hf⟩ := zite hf
          refine g_iast X hk32 hi33 dX12_rowCards_145 ?_
          refine g_hp (fun h34 eh34 => ?_)
          have hf := zlet_n eh34 hf
          obtain ⟨y35, ey35⟩ : ∃ y : Int32, y = x6_74 + (1 : Int32) := ⟨_, rfl⟩
          have hf := zlet_n ey35 hf
          refine g_iinc X (j := 4) [(6, .int y35), (5, .int y31), (0, .ref (base + r0)), (2, .ref (base + r2)), (4, .ref (base + r_8)), (7, .int x7_k96)] dX12_rowCards_146 rfl (by rw [ey35]; rfl) (by decide) rfl ?_
          refine g_goto X 74 dX12_rowCards_149 (by decide) ?_
          cases hf
          exact g_sub [2, 3, 4, 1, 0] rfl (hc0 rfl)
    · obtain ⟨ee, x5_k74, x6_k74, h_k74⟩ := qq
      have hf : kX12_rowCards_74 h ee x5_k74 x6_k74 h_k74 = some hE := hf
      unfold kX12_rowCards_74 at hf
      show zG p l e { frames := 1, cells := 0, slots := 0, locals := 20 } s m args below meth c (MQ below (zQ D cA base h hE none) args s 0 0 (zA base)) 9 D cA base h 152 [] [] h_k74
      cases hf
      exact g_vret X hr dX12_rowCards_152

set_option maxHeartbeats 4000000 in
set_option maxRecDepth 100000 in
theorem sX12_rowMany {l : Launch} {D : va_G} {cA : Nat → ClassId} {base : Nat} {sA : Nat → Nat} {r0 : Nat} {h hE : Zh} {rE : Int32} (hf : fX12_rowMany r0 h = some (rE, hE)) : zC l yX12_rowMany cX12_rowMany 1 (some .int) 1 24 D cA base sA [.ref (base + r0)] h (some (.int rE)) hE := by
  refine g_entry RX12 (by decide) rfl (Nat.le_of_ble_eq_true rfl) ?_
  intro p e s m args below meth c X hr
  unfold fX12_rowMany at hf
  have hf := zlet_n (x := h) rfl hf
  show zG p l e { frames := 1, cells := 0, slots := 0, locals := 24 } s m args below meth c (MQ below (zQ D cA base h hE (some (.int rE))) args s 0 0 (zA base)) 1 D cA base h 0 [(0, .ref (base + r0))] [] h
  refine g_aload_n X 0 dX12_rowMany_0 rfl ?_
  obtain ⟨hk1, hf⟩ := zite hf
  obtain ⟨r_2, hr_2, hf⟩ := zbd hf
  refine g_get X zf12 hk1 3 (by decide) w_f_RX12_329 rfl (zfv_r hr_2 rfl) dX12_rowMany_1 ?_
  obtain ⟨hk3, hf⟩ := zite hf
  refine g_getN X zf11 hk3 0 (by decide) w_fn_RX12_194 rfl rfl dX12_rowMany_4 ?_
  refine g_aload_n X 0 dX12_rowMany_7 rfl ?_
  obtain ⟨r_4, hr_4, hf⟩ := zbd hf
  refine g_get X zf12 hk1 3 (by decide) w_f_RX12_329 rfl (zfv_r hr_4 rfl) dX12_rowMany_8 ?_
  obtain ⟨hk5, hf⟩ := zite hf
  refine g_getN X zf11 hk5 4 (by decide) w_fn_RX12_257 rfl rfl dX12_rowMany_11 ?_
  obtain ⟨v7, h6, hch6, hf⟩ := zc2_e hf
  refine g_callS X 2 (sX12_rowsOf hch6) ysX12_rowsOf w_ml_RX12_99 w_static_X12_rowsOf w_ini_RX12 w_code_X12_rowsOf (by decide) rfl (st := []) rfl rfl (Nat.le_of_ble_eq_true rfl) dX12_rowMany_14 ?_
  refine g_l2i X dX12_rowMany_17 ?_
  refine g_aload_n X 0 dX12_rowMany_18 rfl ?_
  obtain ⟨r_8, hr_8, hf⟩ := zbd hf
  refine g_get X zf12 hk1 3 (by decide) w_f_RX12_329 rfl (zfv_r hr_8 rfl) dX12_rowMany_19 ?_
  obtain ⟨hk9, hf⟩ := zite hf
  obtain ⟨v11, h10, hch10, hf⟩ := zc2_e hf
  refine g_callV X 0 (sX11_tilts hch10) zf11 hk9 ydX11_tilts w_ml_RX12_354 w_instanceMethod_X11_tilts w_sel_X11_tilts w_ini_RX11 w_code_X11_tilts (by decide) rfl (st := [.int v7.toInt32]) rfl rfl (Nat.le_of_ble_eq_true rfl) dX12_rowMany_22 ?_
  refine g_imul X dX12_rowMany_25 ?_
  obtain ⟨rfl, rfl⟩ := zsm hf
  exact g_iret X hr dX12_rowMany_26

set_option maxHeartbeats 4000000 in
set_option maxRecDepth 100000 in
theorem sX12_isHand {l : Launch} {D : va_G} {cA : Nat → ClassId} {base : Nat} {sA : Nat → Nat} {r0 : Nat} {x1 : Int32} {h hE : Zh} {rE : Int32} (hf : fX12_isHand r0 x1 h = some (rE, hE)) : zC l yX12_isHand cX12_isHand 2 (some .boolean) 0 0 D cA base sA [.ref (base + r0), .int x1] h (some (.int rE)) hE := by
  refine g_entry RX12 (by decide) rfl (Nat.le_of_ble_eq_true rfl) ?_
  intro p e s m args below meth c X hr
  unfold fX12_isHand at hf
  have hf := zlet_n (x := h) rfl hf
  show zG p l e { frames := 0, cells := 0, slots := 0, locals := 0 } s m args below meth c (MQ below (zQ D cA base h hE (some (.int rE))) args s 0 0 (zA base)) 2 D cA base h 0 [(0, .ref (base + r0)), (1, .int x1)] [] h
  refine g_aload_n X 0 dX12_isHand_0 rfl ?_
  obtain ⟨hk1, hf⟩ := zite hf
  refine g_get X zf12 hk1 3 (by decide) w_f_RX12_329 rfl rfl dX12_isHand_1 ?_
  refine g_ifnull X 23 dX12_isHand_4 (by decide) (fun hq => ?_) (fun _ hq => ?_)
  · have hf := zneg (by rw [hq]; decide) hf
    refine g_iconst X (v := 0) dX12_isHand_23 (by decide) ?_
    obtain ⟨rfl, rfl⟩ := zsm hf
    exact g_zret X (Or.inl rfl) hr dX12_isHand_24
  · have hf := zpos (by rw [hq]; rfl) hf
    refine g_iload_n X 1 dX12_isHand_7 rfl ?_
    refine g_if_lt X 23 dX12_isHand_8 (by decide) (fun hq => ?_) (fun hq => ?_)
    · have hf := zpos hq hf
      refine g_iconst X (v := 0) dX12_isHand_23 (by decide) ?_
      obtain ⟨rfl, rfl⟩ := zsm hf
      exact g_zret X (Or.inl rfl) hr dX12_isHand_24
    · have hf := zneg hq hf
      refine g_iload_n X 1 dX12_isHand_11 rfl ?_
      refine g_aload_n X 0 dX12_isHand_12 rfl ?_
      refine g_get X zf12 hk1 17 (by decide) w_f_RX12_356 rfl rfl dX12_isHand_13 ?_
      refine g_icmp_ge X 23 dX12_isHand_16 (by decide) (fun hq => ?_) (fun hq => ?_)
      · have hf := zpos hq hf
        refine g_iconst X (v := 0) dX12_isHand_23 (by decide) ?_
        obtain ⟨rfl, rfl⟩ := zsm hf
        exact g_zret X (Or.inl rfl) hr dX12_isHand_24
      · have hf := zneg hq hf
        refine g_iconst X (v := 1) dX12_isHand_19 (by decide) ?_
        refine g_goto X 24 dX12_isHand_20 (by decide) ?_
        obtain ⟨rfl, rfl⟩ := zsm hf
        exact g_zret X (Or.inr rfl) hr dX12_isHand_24

set_option maxHeartbeats 4000000 in
set_option maxRecDepth 100000 in
theorem sX12_isRow {l : Launch} {D : va_G} {cA : Nat → ClassId} {base : Nat} {sA : Nat → Nat} {r0 : Nat} {x1 : Int32} {h hE : Zh} {rE : Int32} (hf : fX12_isRow r0 x1 h = some (rE, hE)) : zC l yX12_isRow cX12_isRow 2 (some .boolean) 2 44 D cA base sA [.ref (base + r0), .int x1] h (some (.int rE)) hE := by
  refine g_entry RX12 (by decide) rfl (Nat.le_of_ble_eq_true rfl) ?_
  intro p e s m args below meth c X hr
  unfold fX12_isRow at hf
  have hf := zlet_n (x := h) rfl hf
  show zG p l e { frames := 2, cells := 0, slots := 0, locals := 44 } s m args below meth c (MQ below (zQ D cA base h hE (some (.int rE))) args s 0 0 (zA base)) 2 D cA base h 0 [(0, .ref (base + r0)), (1, .int x1)] [] h
  refine g_aload_n X 0 dX12_isRow_0 rfl ?_
  obtain ⟨hk1, hf⟩ := zite hf
  refine g_get X zf12 hk1 3 (by decide) w_f_RX12_329 rfl rfl dX12_isRow_1 ?_
  refine g_ifnull X 23 dX12_isRow_4 (by decide) (fun hq => ?_) (fun _ hq => ?_)
  · have hf := zneg (by rw [hq]; decide) hf
    refine g_iconst X (v := 0) dX12_isRow_23 (by decide) ?_
    obtain ⟨rfl, rfl⟩ := zsm hf
    exact g_zret X (Or.inl rfl) hr dX12_isRow_24
  · have hf := zpos (by rw [hq]; rfl) hf
    refine g_iload_n X 1 dX12_isRow_7 rfl ?_
    refine g_if_lt X 23 dX12_isRow_8 (by decide) (fun hq => ?_) (fun hq => ?_)
    · have hf := zpos hq hf
      refine g_iconst X (v := 0) dX12_isRow_23 (by decide) ?_
      obtain ⟨rfl, rfl⟩ := zsm hf
      exact g_zret X (Or.inl rfl) hr dX12_isRow_24
    · have hf := zneg hq hf
      refine g_iload_n X 1 dX12_isRow_11 rfl ?_
      refine g_aload_n X 0 dX12_isRow_12 rfl ?_
      obtain ⟨v3, h2, hch2, hf⟩ := zc2_e hf
      refine g_callV X 0 (sX12_rowMany hch2) zf12 hk1 ydX12_rowMany w_ml_RX12_372 w_instanceMethod_X12_rowMany w_sel_X12_rowMany w_ini_RX12 w_code_X12_rowMany (by decide) rfl (st := [.int x1]) rfl rfl (Nat.le_of_ble_eq_true rfl) dX12_isRow_13 ?_
      refine g_icmp_ge X 23 dX12_isRow_16 (by decide) (fun hq => ?_) (fun hq => ?_)
      · have hf := zpos hq hf
        refine g_iconst X (v := 0) dX12_isRow_23 (by decide) ?_
        obtain ⟨rfl, rfl⟩ := zsm hf
        exact g_zret X (Or.inl rfl) hr dX12_isRow_24
      · have hf := zneg hq hf
        refine g_iconst X (v := 1) dX12_isRow_19 (by decide) ?_
        refine g_goto X 24 dX12_isRow_20 (by decide) ?_
        obtain ⟨rfl, rfl⟩ := zsm hf
        exact g_zret X (Or.inr rfl) hr dX12_isRow_24

