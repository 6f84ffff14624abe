/-! FifthCard Deck clear -/
def fX0_clear (r0 : Nat) (h : Zh) : Option Zh := zlet h fun g =>
  if zK g r0 = 0 then zlet (zsI h r0 0 ((0 : Int32))) fun h2 => zlet (zsI h2 r0 1 ((0 : Int32))) fun h3 => zlet (zsI h3 r0 2 ((0 : Int32))) fun h4 => zlet (zsI h4 r0 3 ((0 : Int32))) fun h5 => zlet (zsI h5 r0 4 ((0 : Int32))) fun h6 => zlet (zsI h6 r0 5 ((0 : Int32))) fun h7 => zlet (zsI h7 r0 6 ((0 : Int32))) fun h8 => zlet (zsI h8 r0 7 ((0 : Int32))) fun h9 => zlet (zsI h9 r0 8 ((0 : Int32))) fun h10 => zlet (zsI h10 r0 9 ((0 : Int32))) fun h11 => zlet (zsI h11 r0 10 ((0 : Int32))) fun h12 => zlet (zsI h12 r0 11 ((1 : Int32))) fun h13 => zlet (zsI h13 r0 12 ((1 : Int32))) fun h14 => some h14 else none
/-! FifthCard Deck falling -/
def bX0_falling_5 (g : Zh) (x0 : Int32) (x1 : Int32) (j2 : Int64) (x4 : Int32) (h : Zh) : Option (Nat × Int64 × Int32 × Zh) :=
  if x1 ≤ x4 then some (1, (j2, (x4, h))) else zlet (j2 * ((x0 - x4).toInt64)) fun y1 => zlet (x4 + (1 : Int32)) fun y2 => some (0, (y1, (y2, h)))
def kX0_falling_5 (g : Zh)  (e : Nat) (j2 : Int64) (x4 : Int32) (h : Zh) : Option (Int64 × Zh) :=
  some (j2, h)
def fX0_falling (x0 : Int32) (x1 : Int32) (h : Zh) : Option (Int64 × Zh) := zlet h fun g =>
  (lp (fun q : Int64 × Int32 × Zh => bX0_falling_5 g x0 x1 q.1 q.2.1 q.2.2) zB ((1 : Int64), ((0 : Int32), h))).bind fun q => kX0_falling_5 g q.1 q.2.1 q.2.2.1 q.2.2.2
/-! FifthCard Deck choose -/
def bX0_choose_5 (g : Zh) (x0 : Int32) (x1 : Int32) (j2 : Int64) (x4 : Int32) (h : Zh) : Option (Nat × Int64 × Int32 × Zh) :=
  if x1 ≤ x4 then some (1, (j2, (x4, h))) else if ¬ ((x4 + ((1 : Int32))).toInt64) = 0 then zlet ((j2 * ((x0 - x4).toInt64)) / ((x4 + ((1 : Int32))).toInt64)) fun y2 => zlet (x4 + (1 : Int32)) fun y3 => some (0, (y2, (y3, h))) else none
def kX0_choose_5 (g : Zh)  (e : Nat) (j2 : Int64) (x4 : Int32) (h : Zh) : Option (Int64 × Zh) :=
  some (j2, h)
def fX0_choose (x0 : Int32) (x1 : Int32) (h : Zh) : Option (Int64 × Zh) := zlet h fun g =>
  (lp (fun q : Int64 × Int32 × Zh => bX0_choose_5 g x0 x1 q.1 q.2.1 q.2.2) zB ((1 : Int64), ((0 : Int32), h))).bind fun q => kX0_choose_5 g q.1 q.2.1 q.2.2.1 q.2.2.2
/-! FifthCard Deck handsOf -/
def fX0_handsOf (r0 : Nat) (x1 : Int32) (h : Zh) : Option (Int64 × Zh) := zlet h fun g =>
  if zK g r0 = 0 then if (zI h r0 6) = 0 then zc2 (fX0_choose x1 (zI h r0 3) h) fun v3 h2 => some (v3, h2) else zc2 (fX0_falling x1 (zI h r0 3) h) fun v5 h4 => some (v5, h4) else none
/-! FifthCard Deck settle -/
def jX0_settle_74 (g : Zh) (r0 : Nat) (t0 : Int32) (t1 : Nat) (h : Zh) : Option Zh :=
  if zK g t1 = 0 then zlet (zsI h t1 12 t0) fun h9 => zc2 (fX0_handsOf r0 (zI h9 r0 0) h9) fun v11 h10 => zlet (zsI h10 r0 9 v11.toInt32) fun h12 => zc2 (fX0_falling (zI h12 r0 0) (zI h12 r0 5) h12) fun v14 h13 => zlet (zsI h13 r0 10 (v14.toInt32 * (zI h13 r0 12))) fun h15 => some h15 else none
def jX0_settle_24 (g : Zh) (r0 : Nat) (t0 : Int32) (t1 : Nat) (h : Zh) : Option Zh :=
  if zK g t1 = 0 then zlet (zsI h t1 2 t0) fun h3 => zlet (zsI h3 r0 5 ((zI h3 r0 3) - (zI h3 r0 4))) fun h4 => zc2 (fX0_falling (zI h4 r0 5) (zI h4 r0 5) h4) fun v6 h5 => zlet (zsI h5 r0 11 v6.toInt32) fun h7 => if (zI h7 r0 8) = 0 then jX0_settle_74 g r0 ((1 : Int32)) r0 h7 else jX0_settle_74 g r0 (((1 : Int32)) <<< ((zI h7 r0 5) &&& 31)) r0 h7 else none
def fX0_settle (r0 : Nat) (h : Zh) : Option Zh := zlet h fun g =>
  if zK g r0 = 0 then if (zI h r0 1) ≤ 0 then jX0_settle_24 g r0 (zI h r0 0) r0 h else if ¬ (zI h r0 1) = 0 then jX0_settle_24 g r0 ((zI h r0 0) / (zI h r0 1)) r0 h else none else none
/-! FifthCard Deck anyOrder -/
def fX0_anyOrder (r0 : Nat) (h : Zh) : Option (Int32 × Zh) := zlet h fun g =>
  if zK g r0 = 0 then if (zI h r0 6) = 0 then if (zI h r0 7) = 0 then some ((1 : Int32), h) else some ((0 : Int32), h) else some ((0 : Int32), h) else none
/-! FifthCard Deck rowsOf -/
def fX0_rowsOf (r0 : Nat) (x1 : Int32) (h : Zh) : Option (Int64 × Zh) := zlet h fun g =>
  if zK g r0 = 0 then if (zI h r0 7) = 0 then zc2 (fX0_falling x1 (zI h r0 5) h) fun v3 h2 => some (v3 * ((zI h2 r0 12).toInt64), h2) else zc2 (fX0_choose x1 (zI h r0 5) h) fun v5 h4 => some (v5 * ((zI h4 r0 12).toInt64), h4) else none
/-! FifthCard Deck waysToShow -/
def fX0_waysToShow (r0 : Nat) (h : Zh) : Option (Int32 × Zh) := zlet h fun g =>
  if zK g r0 = 0 then zc2 (fX0_anyOrder r0 h) fun v3 h2 => if v3 = 0 then zc2 (fX0_choose (zI h2 r0 3) (zI h2 r0 5) h2) fun v5 h4 => some (v5.toInt32 * (zI h4 r0 12), h4) else zc2 (fX0_falling (zI h2 r0 3) (zI h2 r0 5) h2) fun v7 h6 => some (v7.toInt32 * (zI h6 r0 12), h6) else none
/-! FifthCard Deck cardAt -/
def fX0_cardAt (x0 : Int32) (x1 : Int32) (h : Zh) : Option (Int32 × Zh) := zlet h fun g =>
  some ((x0 >>> ((((4 : Int32)) * x1) &&& 31)) &&& ((15 : Int32)), h)
/-! FifthCard Deck isHand -/
def bX0_isHand_4 (g : Zh) (r0 : Nat) (r1 : Nat) (x2 : Int32) (x3 : Int32) (h : Zh) : Option (Nat × Int32 × Int32 × Zh) :=
  if ((5 : Int32)) ≤ x3 then some (3, (x2, (x3, h))) else if zK g r1 = 100 then if zin x3 (zL g r1) then zlet (zI h r1 x3.toNatClampNeg) fun y3 => if zK g r0 = 0 then if x3 < (zI h r0 3) then if y3 < 0 then some (2, (x2, (x3, h))) else if (zI h r0 0) ≤ y3 then some (2, (x2, (x3, h))) else if ((x2 >>> (y3 &&& 31)) &&& ((1 : Int32))) = ((1 : Int32)) then some (2, (x2, (x3, h))) else zlet (x2 ||| (((1 : Int32)) <<< (y3 &&& 31))) fun y5 => zlet (x3 + (1 : Int32)) fun y6 => some (0, (y5, (y6, h))) else if y3 = ((-1 : Int32)) then zlet (x3 + (1 : Int32)) fun y7 => some (0, (x2, (y7, h))) else some (1, (x2, (x3, h))) else none else none else none
def kX0_isHand_4 (g : Zh)  (e : Nat) (x2 : Int32) (x3 : Int32) (h : Zh) : Option (Int32 × Zh) :=
  if e = 1 then some ((0 : Int32), h) else if e = 2 then some ((0 : Int32), h) else some ((1 : Int32), h)
def fX0_isHand (r0 : Nat) (r1 : Nat) (h : Zh) : Option (Int32 × Zh) := zlet h fun g =>
  (lp (fun q : Int32 × Int32 × Zh => bX0_isHand_4 g r0 r1 q.1 q.2.1 q.2.2) zB ((0 : Int32), ((0 : Int32), h))).bind fun q => kX0_isHand_4 g q.1 q.2.1 q.2.2.1 q.2.2.2
/-! java/lang/Integer bitCount -/
def fJ6_bitCount_0f7a4 (x0 : Int32) (h : Zh) : Option (Int32 × Zh) := zlet h fun g =>
  zlet (x0 - ((zush x0 ((1 : Int32))) &&& ((1431655765 : Int32)))) fun y1 => zlet ((y1 &&& ((858993459 : Int32))) + ((zush y1 ((2 : Int32))) &&& ((858993459 : Int32)))) fun y2 => zlet ((y2 + (zush y2 ((4 : Int32)))) &&& ((252645135 : Int32))) fun y3 => zlet (y3 + (zush y3 ((8 : Int32)))) fun y4 => zlet (y4 + (zush y4 ((16 : Int32)))) fun y5 => some (y5 &&& ((63 : Int32)), h)
/-! FifthCard Deck rowNumber -/
def bX0_rowNumber_8 (g : Zh) (r0 : Nat) (r1 : Nat) (x2 : Int32) (x3 : Int32) (x4 : Int32) (x5 : Int32) (h : Zh) : Option (Nat × Int32 × Int32 × Int32 × Zh) :=
  if x2 ≤ x5 then some (1, (x3, (x4, (x5, h)))) else if zK g r1 = 100 then if zin x5 (zL g r1) then zlet (zI h r1 x5.toNatClampNeg) fun y3 => if zK g r0 = 0 then zc2 (fJ6_bitCount_0f7a4 (x4 &&& ((((1 : Int32)) <<< (y3 &&& 31)) - ((1 : Int32)))) h) fun v6 h5 => zlet (((x3 * ((zI h r0 0) - x5)) + y3) - v6) fun y7 => zlet (x4 ||| (((1 : Int32)) <<< (y3 &&& 31))) fun y8 => zlet (x5 + (1 : Int32)) fun y9 => some (0, (y7, (y8, (y9, h5)))) else none else none else none
def kX0_rowNumber_8 (g : Zh)  (e : Nat) (x3 : Int32) (x4 : Int32) (x5 : Int32) (h : Zh) : Option (Int32 × Zh) :=
  some (x3, h)
def fX0_rowNumber (r0 : Nat) (r1 : Nat) (x2 : Int32) (h : Zh) : Option (Int32 × Zh) := zlet h fun g =>
  (lp (fun q : Int32 × Int32 × Int32 × Zh => bX0_rowNumber_8 g r0 r1 x2 q.1 q.2.1 q.2.2.1 q.2.2.2) zB ((0 : Int32), ((0 : Int32), ((0 : Int32), h)))).bind fun q => kX0_rowNumber_8 g q.1 q.2.1 q.2.2.1 q.2.2.2.1 q.2.2.2.2
/-! FifthCard Deck sort -/
def bX0_sort_14 (g : Zh) (r0 : Nat) (x3 : Int32) (x4 : Int32) (h : Zh) : Option (Nat × Int32 × Zh) :=
  if x4 ≤ 0 then some (1, (x4, h)) else if zin (x4 - ((1 : Int32))) (zL g r0) then if (zI h r0 (x4 - ((1 : Int32))).toNatClampNeg) ≤ x3 then some (1, (x4, h)) else if zin (x4 - ((1 : Int32))) (zL g r0) then if zin x4 (zL g r0) then zlet (zsI h r0 x4.toNatClampNeg (zI h r0 (x4 - ((1 : Int32))).toNatClampNeg)) fun h7 => zlet (x4 + (-1 : Int32)) fun y8 => some (0, (y8, h7)) else none else none else none
def kX0_sort_14 (g : Zh) (r0 : Nat) (x1 : Int32) (x2 : Int32) (x3 : Int32) (e : Nat) (x4 : Int32) (h : Zh) : Option (Nat × Int32 × Zh) :=
  if zin x4 (zL g r0) then zlet (zsI h r0 x4.toNatClampNeg x3) fun h10 => zlet (x2 + (1 : Int32)) fun y11 => some (0, (y11, h10)) else none
def bX0_sort_2 (g : Zh) (r0 : Nat) (x1 : Int32) (x2 : Int32) (h : Zh) : Option (Nat × Int32 × Zh) :=
  if x1 ≤ x2 then some (1, (x2, h)) else if zK g r0 = 100 then if zin x2 (zL g r0) then zlet (zI h r0 x2.toNatClampNeg) fun y3 => (lp (fun q : Int32 × Zh => bX0_sort_14 g r0 y3 q.1 q.2) zB (x2, h)).bind fun q => kX0_sort_14 g r0 x1 x2 y3 q.1 q.2.1 q.2.2 else none else none
def kX0_sort_2 (g : Zh)  (e : Nat) (x2 : Int32) (h : Zh) : Option Zh :=
  some h
def fX0_sort (r0 : Nat) (x1 : Int32) (h : Zh) : Option Zh := zlet h fun g =>
  (lp (fun q : Int32 × Zh => bX0_sort_2 g r0 x1 q.1 q.2) zB ((1 : Int32), h)).bind fun q => kX0_sort_2 g q.1 q.2.1 q.2.2
theorem dX0_clear_0 : decode cX0_clear 0 = .ok (.aload_n 0, 1) := by decide +kernel
theorem dX0_clear_1 : decode cX0_clear 1 = .ok (.iconst 0, 1) := by decide +kernel
theorem dX0_clear_2 : decode cX0_clear 2 = .ok (.putfield 18, 3) := by decide +kernel
theorem dX0_clear_5 : decode cX0_clear 5 = .ok (.aload_n 0, 1) := by decide +kernel
theorem dX0_clear_6 : decode cX0_clear 6 = .ok (.iconst 0, 1) := by decide +kernel
theorem dX0_clear_7 : decode cX0_clear 7 = .ok (.putfield 21, 3) := by decide +kernel
theorem dX0_clear_10 : decode cX0_clear 10 = .ok (.aload_n 0, 1) := by decide +kernel
theorem dX0_clear_11 : decode cX0_clear 11 = .ok (.iconst 0, 1) := by decide +kernel
theorem dX0_clear_12 : decode cX0_clear 12 = .ok (.putfield 24, 3) := by decide +kernel
theorem dX0_clear_15 : decode cX0_clear 15 = .ok (.aload_n 0, 1) := by decide +kernel
theorem dX0_clear_16 : decode cX0_clear 16 = .ok (.iconst 0, 1) := by decide +kernel
theorem dX0_clear_17 : decode cX0_clear 17 = .ok (.putfield 27, 3) := by decide +kernel
theorem dX0_clear_20 : decode cX0_clear 20 = .ok (.aload_n 0, 1) := by decide +kernel
theorem dX0_clear_21 : decode cX0_clear 21 = .ok (.iconst 0, 1) := by decide +kernel
theorem dX0_clear_22 : decode cX0_clear 22 = .ok (.putfield 30, 3) := by decide +kernel
theorem dX0_clear_25 : decode cX0_clear 25 = .ok (.aload_n 0, 1) := by decide +kernel
theorem dX0_clear_26 : decode cX0_clear 26 = .ok (.iconst 0, 1) := by decide +kernel
theorem dX0_clear_27 : decode cX0_clear 27 = .ok (.putfield 33, 3) := by decide +kernel
theorem dX0_clear_30 : decode cX0_clear 30 = .ok (.aload_n 0, 1) := by decide +kernel
theorem dX0_clear_31 : decode cX0_clear 31 = .ok (.iconst 0, 1) := by decide +kernel
theorem dX0_clear_32 : decode cX0_clear 32 = .ok (.putfield 36, 3) := by decide +kernel
theorem dX0_clear_35 : decode cX0_clear 35 = .ok (.aload_n 0, 1) := by decide +kernel
theorem dX0_clear_36 : decode cX0_clear 36 = .ok (.iconst 0, 1) := by decide +kernel
theorem dX0_clear_37 : decode cX0_clear 37 = .ok (.putfield 40, 3) := by decide +kernel
theorem dX0_clear_40 : decode cX0_clear 40 = .ok (.aload_n 0, 1) := by decide +kernel
theorem dX0_clear_41 : decode cX0_clear 41 = .ok (.iconst 0, 1) := by decide +kernel
theorem dX0_clear_42 : decode cX0_clear 42 = .ok (.putfield 43, 3) := by decide +kernel
theorem dX0_clear_45 : decode cX0_clear 45 = .ok (.aload_n 0, 1) := by decide +kernel
theorem dX0_clear_46 : decode cX0_clear 46 = .ok (.iconst 0, 1) := by decide +kernel
theorem dX0_clear_47 : decode cX0_clear 47 = .ok (.putfield 46, 3) := by decide +kernel
theorem dX0_clear_50 : decode cX0_clear 50 = .ok (.aload_n 0, 1) := by decide +kernel
theorem dX0_clear_51 : decode cX0_clear 51 = .ok (.iconst 0, 1) := by decide +kernel
theorem dX0_clear_52 : decode cX0_clear 52 = .ok (.putfield 49, 3) := by decide +kernel
theorem dX0_clear_55 : decode cX0_clear 55 = .ok (.aload_n 0, 1) := by decide +kernel
theorem dX0_clear_56 : decode cX0_clear 56 = .ok (.iconst 1, 1) := by decide +kernel
theorem dX0_clear_57 : decode cX0_clear 57 = .ok (.putfield 9, 3) := by decide +kernel
theorem dX0_clear_60 : decode cX0_clear 60 = .ok (.aload_n 0, 1) := by decide +kernel
theorem dX0_clear_61 : decode cX0_clear 61 = .ok (.iconst 1, 1) := by decide +kernel
theorem dX0_clear_62 : decode cX0_clear 62 = .ok (.putfield 15, 3) := by decide +kernel
theorem dX0_clear_65 : decode cX0_clear 65 = .ok (.return_, 1) := by decide +kernel
theorem dX0_falling_0 : decode cX0_falling 0 = .ok (.lconst 1, 1) := by decide +kernel
theorem dX0_falling_1 : decode cX0_falling 1 = .ok (.lstore_n 2, 1) := by decide +kernel
theorem dX0_falling_2 : decode cX0_falling 2 = .ok (.iconst 0, 1) := by decide +kernel
theorem dX0_falling_3 : decode cX0_falling 3 = .ok (.istore 4, 2) := by decide +kernel
theorem dX0_falling_5 : decode cX0_falling 5 = .ok (.iload 4, 2) := by decide +kernel
theorem dX0_falling_7 : decode cX0_falling 7 = .ok (.iload_n 1, 1) := by decide +kernel
theorem dX0_falling_8 : decode cX0_falling 8 = .ok (.if_icmp .ge 17, 3) := by decide +kernel
theorem dX0_falling_11 : decode cX0_falling 11 = .ok (.lload_n 2, 1) := by decide +kernel
theorem dX0_falling_12 : decode cX0_falling 12 = .ok (.iload_n 0, 1) := by decide +kernel
theorem dX0_falling_13 : decode cX0_falling 13 = .ok (.iload 4, 2) := by decide +kernel
theorem dX0_falling_15 : decode cX0_falling 15 = .ok (.isub, 1) := by decide +kernel
theorem dX0_falling_16 : decode cX0_falling 16 = .ok (.i2l, 1) := by decide +kernel
theorem dX0_falling_17 : decode cX0_falling 17 = .ok (.lmul, 1) := by decide +kernel
theorem dX0_falling_18 : decode cX0_falling 18 = .ok (.lstore_n 2, 1) := by decide +kernel
theorem dX0_falling_19 : decode cX0_falling 19 = .ok (.iinc 4 1, 3) := by decide +kernel
theorem dX0_falling_22 : decode cX0_falling 22 = .ok (.goto (-17), 3) := by decide +kernel
theorem dX0_falling_25 : decode cX0_falling 25 = .ok (.lload_n 2, 1) := by decide +kernel
theorem dX0_falling_26 : decode cX0_falling 26 = .ok (.lreturn, 1) := by decide +kernel
theorem dX0_choose_0 : decode cX0_choose 0 = .ok (.lconst 1, 1) := by decide +kernel
theorem dX0_choose_1 : decode cX0_choose 1 = .ok (.lstore_n 2, 1) := by decide +kernel
theorem dX0_choose_2 : decode cX0_choose 2 = .ok (.iconst 0, 1) := by decide +kernel
theorem dX0_choose_3 : decode cX0_choose 3 = .ok (.istore 4, 2) := by decide +kernel
theorem dX0_choose_5 : decode cX0_choose 5 = .ok (.iload 4, 2) := by decide +kernel
theorem dX0_choose_7 : decode cX0_choose 7 = .ok (.iload_n 1, 1) := by decide +kernel
theorem dX0_choose_8 : decode cX0_choose 8 = .ok (.if_icmp .ge 23, 3) := by decide +kernel
theorem dX0_choose_11 : decode cX0_choose 11 = .ok (.lload_n 2, 1) := by decide +kernel
theorem dX0_choose_12 : decode cX0_choose 12 = .ok (.iload_n 0, 1) := by decide +kernel
theorem dX0_choose_13 : decode cX0_choose 13 = .ok (.iload 4, 2) := by decide +kernel
theorem dX0_choose_15 : decode cX0_choose 15 = .ok (.isub, 1) := by decide +kernel
theorem dX0_choose_16 : decode cX0_choose 16 = .ok (.i2l, 1) := by decide +kernel
theorem dX0_choose_17 : decode cX0_choose 17 = .ok (.lmul, 1) := by decide +kernel
theorem dX0_choose_18 : decode cX0_choose 18 = .ok (.iload 4, 2) := by decide +kernel
theorem dX0_choose_20 : decode cX0_choose 20 = .ok (.iconst 1, 1) := by decide +kernel
theorem dX0_choose_21 : decode cX0_choose 21 = .ok (.iadd, 1) := by decide +kernel
theorem dX0_choose_22 : decode cX0_choose 22 = .ok (.i2l, 1) := by decide +kernel
theorem dX0_choose_23 : decode cX0_choose 23 = .ok (.ldiv, 1) := by decide +kernel
theorem dX0_choose_24 : decode cX0_choose 24 = .ok (.lstore_n 2, 1) := by decide +kernel
theorem dX0_choose_25 : decode cX0_choose 25 = .ok (.iinc 4 1, 3) := by decide +kernel
theorem dX0_choose_28 : decode cX0_choose 28 = .ok (.goto (-23), 3) := by decide +kernel
theorem dX0_choose_31 : decode cX0_choose 31 = .ok (.lload_n 2, 1) := by decide +kernel
theorem dX0_choose_32 : decode cX0_choose 32 = .ok (.lreturn, 1) := by decide +kernel
theorem dX0_handsOf_0 : decode cX0_handsOf 0 = .ok (.aload_n 0, 1) := by decide +kernel
theorem dX0_handsOf_1 : decode cX0_handsOf 1 = .ok (.getfield 36, 3) := by decide +kernel
theorem dX0_handsOf_4 : decode cX0_handsOf 4 = .ok (.ifCond .eq 14, 3) := by decide +kernel
theorem dX0_handsOf_7 : decode cX0_handsOf 7 = .ok (.iload_n 1, 1) := by decide +kernel
theorem dX0_handsOf_8 : decode cX0_handsOf 8 = .ok (.aload_n 0, 1) := by decide +kernel
theorem dX0_handsOf_9 : decode cX0_handsOf 9 = .ok (.getfield 27, 3) := by decide +kernel
theorem dX0_handsOf_12 : decode cX0_handsOf 12 = .ok (.invokestatic 52, 3) := by decide +kernel
theorem dX0_handsOf_15 : decode cX0_handsOf 15 = .ok (.goto 11, 3) := by decide +kernel
theorem dX0_handsOf_18 : decode cX0_handsOf 18 = .ok (.iload_n 1, 1) := by decide +kernel
theorem dX0_handsOf_19 : decode cX0_handsOf 19 = .ok (.aload_n 0, 1) := by decide +kernel
theorem dX0_handsOf_20 : decode cX0_handsOf 20 = .ok (.getfield 27, 3) := by decide +kernel
theorem dX0_handsOf_23 : decode cX0_handsOf 23 = .ok (.invokestatic 60, 3) := by decide +kernel
theorem dX0_handsOf_26 : decode cX0_handsOf 26 = .ok (.lreturn, 1) := by decide +kernel
theorem dX0_settle_0 : decode cX0_settle 0 = .ok (.aload_n 0, 1) := by decide +kernel
theorem dX0_settle_1 : decode cX0_settle 1 = .ok (.aload_n 0, 1) := by decide +kernel
theorem dX0_settle_2 : decode cX0_settle 2 = .ok (.getfield 21, 3) := by decide +kernel
theorem dX0_settle_5 : decode cX0_settle 5 = .ok (.ifCond .le 15, 3) := by decide +kernel
theorem dX0_settle_8 : decode cX0_settle 8 = .ok (.aload_n 0, 1) := by decide +kernel
theorem dX0_settle_9 : decode cX0_settle 9 = .ok (.getfield 18, 3) := by decide +kernel
theorem dX0_settle_12 : decode cX0_settle 12 = .ok (.aload_n 0, 1) := by decide +kernel
theorem dX0_settle_13 : decode cX0_settle 13 = .ok (.getfield 21, 3) := by decide +kernel
theorem dX0_settle_16 : decode cX0_settle 16 = .ok (.idiv, 1) := by decide +kernel
theorem dX0_settle_17 : decode cX0_settle 17 = .ok (.goto 7, 3) := by decide +kernel
theorem dX0_settle_20 : decode cX0_settle 20 = .ok (.aload_n 0, 1) := by decide +kernel
theorem dX0_settle_21 : decode cX0_settle 21 = .ok (.getfield 18, 3) := by decide +kernel
theorem dX0_settle_24 : decode cX0_settle 24 = .ok (.putfield 24, 3) := by decide +kernel
theorem dX0_settle_27 : decode cX0_settle 27 = .ok (.aload_n 0, 1) := by decide +kernel
theorem dX0_settle_28 : decode cX0_settle 28 = .ok (.aload_n 0, 1) := by decide +kernel
theorem dX0_settle_29 : decode cX0_settle 29 = .ok (.getfield 27, 3) := by decide +kernel
theorem dX0_settle_32 : decode cX0_settle 32 = .ok (.aload_n 0, 1) := by decide +kernel
theorem dX0_settle_33 : decode cX0_settle 33 = .ok (.getfield 30, 3) := by decide +kernel
theorem dX0_settle_36 : decode cX0_settle 36 = .ok (.isub, 1) := by decide +kernel
theorem dX0_settle_37 : decode cX0_settle 37 = .ok (.putfield 33, 3) := by decide +kernel
theorem dX0_settle_40 : decode cX0_settle 40 = .ok (.aload_n 0, 1) := by decide +kernel
theorem dX0_settle_41 : decode cX0_settle 41 = .ok (.aload_n 0, 1) := by decide +kernel
theorem dX0_settle_42 : decode cX0_settle 42 = .ok (.getfield 33, 3) := by decide +kernel
theorem dX0_settle_45 : decode cX0_settle 45 = .ok (.aload_n 0, 1) := by decide +kernel
theorem dX0_settle_46 : decode cX0_settle 46 = .ok (.getfield 33, 3) := by decide +kernel
theorem dX0_settle_49 : decode cX0_settle 49 = .ok (.invokestatic 52, 3) := by decide +kernel
theorem dX0_settle_52 : decode cX0_settle 52 = .ok (.l2i, 1) := by decide +kernel
theorem dX0_settle_53 : decode cX0_settle 53 = .ok (.putfield 9, 3) := by decide +kernel
theorem dX0_settle_56 : decode cX0_settle 56 = .ok (.aload_n 0, 1) := by decide +kernel
theorem dX0_settle_57 : decode cX0_settle 57 = .ok (.aload_n 0, 1) := by decide +kernel
theorem dX0_settle_58 : decode cX0_settle 58 = .ok (.getfield 43, 3) := by decide +kernel
theorem dX0_settle_61 : decode cX0_settle 61 = .ok (.ifCond .eq 12, 3) := by decide +kernel
theorem dX0_settle_64 : decode cX0_settle 64 = .ok (.iconst 1, 1) := by decide +kernel
theorem dX0_settle_65 : decode cX0_settle 65 = .ok (.aload_n 0, 1) := by decide +kernel
theorem dX0_settle_66 : decode cX0_settle 66 = .ok (.getfield 33, 3) := by decide +kernel
theorem dX0_settle_69 : decode cX0_settle 69 = .ok (.ishl, 1) := by decide +kernel
theorem dX0_settle_70 : decode cX0_settle 70 = .ok (.goto 4, 3) := by decide +kernel
theorem dX0_settle_73 : decode cX0_settle 73 = .ok (.iconst 1, 1) := by decide +kernel
theorem dX0_settle_74 : decode cX0_settle 74 = .ok (.putfield 15, 3) := by decide +kernel
theorem dX0_settle_77 : decode cX0_settle 77 = .ok (.aload_n 0, 1) := by decide +kernel
theorem dX0_settle_78 : decode cX0_settle 78 = .ok (.aload_n 0, 1) := by decide +kernel
theorem dX0_settle_79 : decode cX0_settle 79 = .ok (.aload_n 0, 1) := by decide +kernel
theorem dX0_settle_80 : decode cX0_settle 80 = .ok (.getfield 18, 3) := by decide +kernel
theorem dX0_settle_83 : decode cX0_settle 83 = .ok (.invokevirtual 56, 3) := by decide +kernel
theorem dX0_settle_86 : decode cX0_settle 86 = .ok (.l2i, 1) := by decide +kernel
theorem dX0_settle_87 : decode cX0_settle 87 = .ok (.putfield 46, 3) := by decide +kernel
theorem dX0_settle_90 : decode cX0_settle 90 = .ok (.aload_n 0, 1) := by decide +kernel
theorem dX0_settle_91 : decode cX0_settle 91 = .ok (.aload_n 0, 1) := by decide +kernel
theorem dX0_settle_92 : decode cX0_settle 92 = .ok (.getfield 18, 3) := by decide +kernel
theorem dX0_settle_95 : decode cX0_settle 95 = .ok (.aload_n 0, 1) := by decide +kernel
theorem dX0_settle_96 : decode cX0_settle 96 = .ok (.getfield 33, 3) := by decide +kernel
theorem dX0_settle_99 : decode cX0_settle 99 = .ok (.invokestatic 52, 3) := by decide +kernel
theorem dX0_settle_102 : decode cX0_settle 102 = .ok (.l2i, 1) := by decide +kernel
theorem dX0_settle_103 : decode cX0_settle 103 = .ok (.aload_n 0, 1) := by decide +kernel
theorem dX0_settle_104 : decode cX0_settle 104 = .ok (.getfield 15, 3) := by decide +kernel
theorem dX0_settle_107 : decode cX0_settle 107 = .ok (.imul, 1) := by decide +kernel
theorem dX0_settle_108 : decode cX0_settle 108 = .ok (.putfield 49, 3) := by decide +kernel
theorem dX0_settle_111 : decode cX0_settle 111 = .ok (.return_, 1) := by decide +kernel
theorem dX0_anyOrder_0 : decode cX0_anyOrder 0 = .ok (.aload_n 0, 1) := by decide +kernel
theorem dX0_anyOrder_1 : decode cX0_anyOrder 1 = .ok (.getfield 36, 3) := by decide +kernel
theorem dX0_anyOrder_4 : decode cX0_anyOrder 4 = .ok (.ifCond .ne 14, 3) := by decide +kernel
theorem dX0_anyOrder_7 : decode cX0_anyOrder 7 = .ok (.aload_n 0, 1) := by decide +kernel
theorem dX0_anyOrder_8 : decode cX0_anyOrder 8 = .ok (.getfield 40, 3) := by decide +kernel
theorem dX0_anyOrder_11 : decode cX0_anyOrder 11 = .ok (.ifCond .ne 7, 3) := by decide +kernel
theorem dX0_anyOrder_14 : decode cX0_anyOrder 14 = .ok (.iconst 1, 1) := by decide +kernel
theorem dX0_anyOrder_15 : decode cX0_anyOrder 15 = .ok (.goto 4, 3) := by decide +kernel
theorem dX0_anyOrder_18 : decode cX0_anyOrder 18 = .ok (.iconst 0, 1) := by decide +kernel
theorem dX0_anyOrder_19 : decode cX0_anyOrder 19 = .ok (.ireturn, 1) := by decide +kernel
theorem dX0_rowsOf_0 : decode cX0_rowsOf 0 = .ok (.aload_n 0, 1) := by decide +kernel
theorem dX0_rowsOf_1 : decode cX0_rowsOf 1 = .ok (.getfield 40, 3) := by decide +kernel
theorem dX0_rowsOf_4 : decode cX0_rowsOf 4 = .ok (.ifCond .eq 14, 3) := by decide +kernel
theorem dX0_rowsOf_7 : decode cX0_rowsOf 7 = .ok (.iload_n 1, 1) := by decide +kernel
theorem dX0_rowsOf_8 : decode cX0_rowsOf 8 = .ok (.aload_n 0, 1) := by decide +kernel
theorem dX0_rowsOf_9 : decode cX0_rowsOf 9 = .ok (.getfield 33, 3) := by decide +kernel
theorem dX0_rowsOf_12 : decode cX0_rowsOf 12 = .ok (.invokestatic 60, 3) := by decide +kernel
theorem dX0_rowsOf_15 : decode cX0_rowsOf 15 = .ok (.goto 11, 3) := by decide +kernel
theorem dX0_rowsOf_18 : decode cX0_rowsOf 18 = .ok (.iload_n 1, 1) := by decide +kernel
theorem dX0_rowsOf_19 : decode cX0_rowsOf 19 = .ok (.aload_n 0, 1) := by decide +kernel
theorem dX0_rowsOf_20 : decode cX0_rowsOf 20 = .ok (.getfield 33, 3) := by decide +kernel
theorem dX0_rowsOf_23 : decode cX0_rowsOf 23 = .ok (.invokestatic 52, 3) := by decide +kernel
theorem dX0_rowsOf_26 : decode cX0_rowsOf 26 = .ok (.aload_n 0, 1) := by decide +kernel
theorem dX0_rowsOf_27 : decode cX0_rowsOf 27 = .ok (.getfield 15, 3) := by decide +kernel
theorem dX0_rowsOf_30 : decode cX0_rowsOf 30 = .ok (.i2l, 1) := by decide +kernel
theorem dX0_rowsOf_31 : decode cX0_rowsOf 31 = .ok (.lmul, 1) := by decide +kernel
theorem dX0_rowsOf_32 : decode cX0_rowsOf 32 = .ok (.lreturn, 1) := by decide +kernel
theorem dX0_waysToShow_0 : decode cX0_waysToShow 0 = .ok (.aload_n 0, 1) := by decide +kernel
theorem dX0_waysToShow_1 : decode cX0_waysToShow 1 = .ok (.invokevirtual 63, 3) := by decide +kernel
theorem dX0_waysToShow_4 : decode cX0_waysToShow 4 = .ok (.ifCond .eq 17, 3) := by decide +kernel
theorem dX0_waysToShow_7 : decode cX0_waysToShow 7 = .ok (.aload_n 0, 1) := by decide +kernel
theorem dX0_waysToShow_8 : decode cX0_waysToShow 8 = .ok (.getfield 27, 3) := by decide +kernel
theorem dX0_waysToShow_11 : decode cX0_waysToShow 11 = .ok (.aload_n 0, 1) := by decide +kernel
theorem dX0_waysToShow_12 : decode cX0_waysToShow 12 = .ok (.getfield 33, 3) := by decide +kernel
theorem dX0_waysToShow_15 : decode cX0_waysToShow 15 = .ok (.invokestatic 52, 3) := by decide +kernel
theorem dX0_waysToShow_18 : decode cX0_waysToShow 18 = .ok (.goto 14, 3) := by decide +kernel
theorem dX0_waysToShow_21 : decode cX0_waysToShow 21 = .ok (.aload_n 0, 1) := by decide +kernel
theorem dX0_waysToShow_22 : decode cX0_waysToShow 22 = .ok (.getfield 27, 3) := by decide +kernel
theorem dX0_waysToShow_25 : decode cX0_waysToShow 25 = .ok (.aload_n 0, 1) := by decide +kernel
theorem dX0_waysToShow_26 : decode cX0_waysToShow 26 = .ok (.getfield 33, 3) := by decide +kernel
theorem dX0_waysToShow_29 : decode cX0_waysToShow 29 = .ok (.invokestatic 60, 3) := by decide +kernel
theorem dX0_waysToShow_32 : decode cX0_waysToShow 32 = .ok (.lstore_n 1, 1) := by decide +kernel
theorem dX0_waysToShow_33 : decode cX0_waysToShow 33 = .ok (.lload_n 1, 1) := by decide +kernel
theorem dX0_waysToShow_34 : decode cX0_waysToShow 34 = .ok (.l2i, 1) := by decide +kernel
theorem dX0_waysToShow_35 : decode cX0_waysToShow 35 = .ok (.aload_n 0, 1) := by decide +kernel
theorem dX0_waysToShow_36 : decode cX0_waysToShow 36 = .ok (.getfield 15, 3) := by decide +kernel
theorem dX0_waysToShow_39 : decode cX0_waysToShow 39 = .ok (.imul, 1) := by decide +kernel
theorem dX0_waysToShow_40 : decode cX0_waysToShow 40 = .ok (.ireturn, 1) := by decide +kernel
theorem dX0_cardAt_0 : decode cX0_cardAt 0 = .ok (.iload_n 0, 1) := by decide +kernel
theorem dX0_cardAt_1 : decode cX0_cardAt 1 = .ok (.iconst 4, 1) := by decide +kernel
theorem dX0_cardAt_2 : decode cX0_cardAt 2 = .ok (.iload_n 1, 1) := by decide +kernel
theorem dX0_cardAt_3 : decode cX0_cardAt 3 = .ok (.imul, 1) := by decide +kernel
theorem dX0_cardAt_4 : decode cX0_cardAt 4 = .ok (.ishr, 1) := by decide +kernel
theorem dX0_cardAt_5 : decode cX0_cardAt 5 = .ok (.bipush 15, 2) := by decide +kernel
theorem dX0_cardAt_7 : decode cX0_cardAt 7 = .ok (.iand, 1) := by decide +kernel
theorem dX0_cardAt_8 : decode cX0_cardAt 8 = .ok (.ireturn, 1) := by decide +kernel
theorem dX0_isHand_0 : decode cX0_isHand 0 = .ok (.iconst 0, 1) := by decide +kernel
theorem dX0_isHand_1 : decode cX0_isHand 1 = .ok (.istore_n 2, 1) := by decide +kernel
theorem dX0_isHand_2 : decode cX0_isHand 2 = .ok (.iconst 0, 1) := by decide +kernel
theorem dX0_isHand_3 : decode cX0_isHand 3 = .ok (.istore_n 3, 1) := by decide +kernel
theorem dX0_isHand_4 : decode cX0_isHand 4 = .ok (.iload_n 3, 1) := by decide +kernel
theorem dX0_isHand_5 : decode cX0_isHand 5 = .ok (.iconst 5, 1) := by decide +kernel
theorem dX0_isHand_6 : decode cX0_isHand 6 = .ok (.if_icmp .ge 63, 3) := by decide +kernel
theorem dX0_isHand_9 : decode cX0_isHand 9 = .ok (.aload_n 1, 1) := by decide +kernel
theorem dX0_isHand_10 : decode cX0_isHand 10 = .ok (.iload_n 3, 1) := by decide +kernel
theorem dX0_isHand_11 : decode cX0_isHand 11 = .ok (.iaload, 1) := by decide +kernel
theorem dX0_isHand_12 : decode cX0_isHand 12 = .ok (.istore 4, 2) := by decide +kernel
theorem dX0_isHand_14 : decode cX0_isHand 14 = .ok (.iload_n 3, 1) := by decide +kernel
theorem dX0_isHand_15 : decode cX0_isHand 15 = .ok (.aload_n 0, 1) := by decide +kernel
theorem dX0_isHand_16 : decode cX0_isHand 16 = .ok (.getfield 27, 3) := by decide +kernel
theorem dX0_isHand_19 : decode cX0_isHand 19 = .ok (.if_icmp .lt 11, 3) := by decide +kernel
theorem dX0_isHand_22 : decode cX0_isHand 22 = .ok (.iload 4, 2) := by decide +kernel
theorem dX0_isHand_24 : decode cX0_isHand 24 = .ok (.iconst (-1), 1) := by decide +kernel
theorem dX0_isHand_25 : decode cX0_isHand 25 = .ok (.if_icmp .eq 38, 3) := by decide +kernel
theorem dX0_isHand_28 : decode cX0_isHand 28 = .ok (.iconst 0, 1) := by decide +kernel
theorem dX0_isHand_29 : decode cX0_isHand 29 = .ok (.ireturn, 1) := by decide +kernel
theorem dX0_isHand_30 : decode cX0_isHand 30 = .ok (.iload 4, 2) := by decide +kernel
theorem dX0_isHand_32 : decode cX0_isHand 32 = .ok (.ifCond .lt 22, 3) := by decide +kernel
theorem dX0_isHand_35 : decode cX0_isHand 35 = .ok (.iload 4, 2) := by decide +kernel
theorem dX0_isHand_37 : decode cX0_isHand 37 = .ok (.aload_n 0, 1) := by decide +kernel
theorem dX0_isHand_38 : decode cX0_isHand 38 = .ok (.getfield 18, 3) := by decide +kernel
theorem dX0_isHand_41 : decode cX0_isHand 41 = .ok (.if_icmp .ge 13, 3) := by decide +kernel
theorem dX0_isHand_44 : decode cX0_isHand 44 = .ok (.iload_n 2, 1) := by decide +kernel
theorem dX0_isHand_45 : decode cX0_isHand 45 = .ok (.iload 4, 2) := by decide +kernel
theorem dX0_isHand_47 : decode cX0_isHand 47 = .ok (.ishr, 1) := by decide +kernel
theorem dX0_isHand_48 : decode cX0_isHand 48 = .ok (.iconst 1, 1) := by decide +kernel
theorem dX0_isHand_49 : decode cX0_isHand 49 = .ok (.iand, 1) := by decide +kernel
theorem dX0_isHand_50 : decode cX0_isHand 50 = .ok (.iconst 1, 1) := by decide +kernel
theorem dX0_isHand_51 : decode cX0_isHand 51 = .ok (.if_icmp .ne 5, 3) := by decide +kernel
theorem dX0_isHand_54 : decode cX0_isHand 54 = .ok (.iconst 0, 1) := by decide +kernel
theorem dX0_isHand_55 : decode cX0_isHand 55 = .ok (.ireturn, 1) := by decide +kernel
theorem dX0_isHand_56 : decode cX0_isHand 56 = .ok (.iload_n 2, 1) := by decide +kernel
theorem dX0_isHand_57 : decode cX0_isHand 57 = .ok (.iconst 1, 1) := by decide +kernel
theorem dX0_isHand_58 : decode cX0_isHand 58 = .ok (.iload 4, 2) := by decide +kernel
theorem dX0_isHand_60 : decode cX0_isHand 60 = .ok (.ishl, 1) := by decide +kernel
theorem dX0_isHand_61 : decode cX0_isHand 61 = .ok (.ior, 1) := by decide +kernel
theorem dX0_isHand_62 : decode cX0_isHand 62 = .ok (.istore_n 2, 1) := by decide +kernel
theorem dX0_isHand_63 : decode cX0_isHand 63 = .ok (.iinc 3 1, 3) := by decide +kernel
theorem dX0_isHand_66 : decode cX0_isHand 66 = .ok (.goto (-62), 3) := by decide +kernel
theorem dX0_isHand_69 : decode cX0_isHand 69 = .ok (.iconst 1, 1) := by decide +kernel
theorem dX0_isHand_70 : decode cX0_isHand 70 = .ok (.ireturn, 1) := by decide +kernel
theorem dJ6_bitCount_0f7a4_0 : decode cJ6_bitCount_0f7a4 0 = .ok (.iload_n 0, 1) := by decide +kernel
theorem dJ6_bitCount_0f7a4_1 : decode cJ6_bitCount_0f7a4 1 = .ok (.iload_n 0, 1) := by decide +kernel
theorem dJ6_bitCount_0f7a4_2 : decode cJ6_bitCount_0f7a4 2 = .ok (.iconst 1, 1) := by decide +kernel
theorem dJ6_bitCount_0f7a4_3 : decode cJ6_bitCount_0f7a4 3 = .ok (.iushr, 1) := by decide +kernel
theorem dJ6_bitCount_0f7a4_4 : decode cJ6_bitCount_0f7a4 4 = .ok (.ldc_w 265, 3) := by decide +kernel
theorem dJ6_bitCount_0f7a4_7 : decode cJ6_bitCount_0f7a4 7 = .ok (.iand, 1) := by decide +kernel
theorem dJ6_bitCount_0f7a4_8 : decode cJ6_bitCount_0f7a4 8 = .ok (.isub, 1) := by decide +kernel
theorem dJ6_bitCount_0f7a4_9 : decode cJ6_bitCount_0f7a4 9 = .ok (.istore_n 0, 1) := by decide +kernel
theorem dJ6_bitCount_0f7a4_10 : decode cJ6_bitCount_0f7a4 10 = .ok (.iload_n 0, 1) := by decide +kernel
theorem dJ6_bitCount_0f7a4_11 : decode cJ6_bitCount_0f7a4 11 = .ok (.ldc_w 266, 3) := by decide +kernel
theorem dJ6_bitCount_0f7a4_14 : decode cJ6_bitCount_0f7a4 14 = .ok (.iand, 1) := by decide +kernel
theorem dJ6_bitCount_0f7a4_15 : decode cJ6_bitCount_0f7a4 15 = .ok (.iload_n 0, 1) := by decide +kernel
theorem dJ6_bitCount_0f7a4_16 : decode cJ6_bitCount_0f7a4 16 = .ok (.iconst 2, 1) := by decide +kernel
theorem dJ6_bitCount_0f7a4_17 : decode cJ6_bitCount_0f7a4 17 = .ok (.iushr, 1) := by decide +kernel
theorem dJ6_bitCount_0f7a4_18 : decode cJ6_bitCount_0f7a4 18 = .ok (.ldc_w 266, 3) := by decide +kernel
theorem dJ6_bitCount_0f7a4_21 : decode cJ6_bitCount_0f7a4 21 = .ok (.iand, 1) := by decide +kernel
theorem dJ6_bitCount_0f7a4_22 : decode cJ6_bitCount_0f7a4 22 = .ok (.iadd, 1) := by decide +kernel
theorem dJ6_bitCount_0f7a4_23 : decode cJ6_bitCount_0f7a4 23 = .ok (.istore_n 0, 1) := by decide +kernel
theorem dJ6_bitCount_0f7a4_24 : decode cJ6_bitCount_0f7a4 24 = .ok (.iload_n 0, 1) := by decide +kernel
theorem dJ6_bitCount_0f7a4_25 : decode cJ6_bitCount_0f7a4 25 = .ok (.iload_n 0, 1) := by decide +kernel
theorem dJ6_bitCount_0f7a4_26 : decode cJ6_bitCount_0f7a4 26 = .ok (.iconst 4, 1) := by decide +kernel
theorem dJ6_bitCount_0f7a4_27 : decode cJ6_bitCount_0f7a4 27 = .ok (.iushr, 1) := by decide +kernel
theorem dJ6_bitCount_0f7a4_28 : decode cJ6_bitCount_0f7a4 28 = .ok (.iadd, 1) := by decide +kernel
theorem dJ6_bitCount_0f7a4_29 : decode cJ6_bitCount_0f7a4 29 = .ok (.ldc_w 267, 3) := by decide +kernel
theorem dJ6_bitCount_0f7a4_32 : decode cJ6_bitCount_0f7a4 32 = .ok (.iand, 1) := by decide +kernel
theorem dJ6_bitCount_0f7a4_33 : decode cJ6_bitCount_0f7a4 33 = .ok (.istore_n 0, 1) := by decide +kernel
theorem dJ6_bitCount_0f7a4_34 : decode cJ6_bitCount_0f7a4 34 = .ok (.iload_n 0, 1) := by decide +kernel
theorem dJ6_bitCount_0f7a4_35 : decode cJ6_bitCount_0f7a4 35 = .ok (.iload_n 0, 1) := by decide +kernel
theorem dJ6_bitCount_0f7a4_36 : decode cJ6_bitCount_0f7a4 36 = .ok (.bipush 8, 2) := by decide +kernel
theorem dJ6_bitCount_0f7a4_38 : decode cJ6_bitCount_0f7a4 38 = .ok (.iushr, 1) := by decide +kernel
theorem dJ6_bitCount_0f7a4_39 : decode cJ6_bitCount_0f7a4 39 = .ok (.iadd, 1) := by decide +kernel
theorem dJ6_bitCount_0f7a4_40 : decode cJ6_bitCount_0f7a4 40 = .ok (.istore_n 0, 1) := by decide +kernel
theorem dJ6_bitCount_0f7a4_41 : decode cJ6_bitCount_0f7a4 41 = .ok (.iload_n 0, 1) := by decide +kernel
theorem dJ6_bitCount_0f7a4_42 : decode cJ6_bitCount_0f7a4 42 = .ok (.iload_n 0, 1) := by decide +kernel
theorem dJ6_bitCount_0f7a4_43 : decode cJ6_bitCount_0f7a4 43 = .ok (.bipush 16, 2) := by decide +kernel
theorem dJ6_bitCount_0f7a4_45 : decode cJ6_bitCount_0f7a4 45 = .ok (.iushr, 1) := by decide +kernel
theorem dJ6_bitCount_0f7a4_46 : decode cJ6_bitCount_0f7a4 46 = .ok (.iadd, 1) := by decide +kernel
theorem dJ6_bitCount_0f7a4_47 : decode cJ6_bitCount_0f7a4 47 = .ok (.istore_n 0, 1) := by decide +kernel
theorem dJ6_bitCount_0f7a4_48 : decode cJ6_bitCount_0f7a4 48 = .ok (.iload_n 0, 1) := by decide +kernel
theorem dJ6_bitCount_0f7a4_49 : decode cJ6_bitCount_0f7a4 49 = .ok (.bipush 63, 2) := by decide +kernel
theorem dJ6_bitCount_0f7a4_51 : decode cJ6_bitCount_0f7a4 51 = .ok (.iand, 1) := by decide +kernel
theorem dJ6_bitCount_0f7a4_52 : decode cJ6_bitCount_0f7a4 52 = .ok (.ireturn, 1) := by decide +kernel
theorem dX0_rowNumber_0 : decode cX0_rowNumber 0 = .ok (.iconst 0, 1) := by decide +kernel
theorem dX0_rowNumber_1 : decode cX0_rowNumber 1 = .ok (.istore_n 3, 1) := by decide +kernel
theorem dX0_rowNumber_2 : decode cX0_rowNumber 2 = .ok (.iconst 0, 1) := by decide +kernel
theorem dX0_rowNumber_3 : decode cX0_rowNumber 3 = .ok (.istore 4, 2) := by decide +kernel
theorem dX0_rowNumber_5 : decode cX0_rowNumber 5 = .ok (.iconst 0, 1) := by decide +kernel
theorem dX0_rowNumber_6 : decode cX0_rowNumber 6 = .ok (.istore 5, 2) := by decide +kernel
theorem dX0_rowNumber_8 : decode cX0_rowNumber 8 = .ok (.iload 5, 2) := by decide +kernel
theorem dX0_rowNumber_10 : decode cX0_rowNumber 10 = .ok (.iload_n 2, 1) := by decide +kernel
theorem dX0_rowNumber_11 : decode cX0_rowNumber 11 = .ok (.if_icmp .ge 50, 3) := by decide +kernel
theorem dX0_rowNumber_14 : decode cX0_rowNumber 14 = .ok (.aload_n 1, 1) := by decide +kernel
theorem dX0_rowNumber_15 : decode cX0_rowNumber 15 = .ok (.iload 5, 2) := by decide +kernel
theorem dX0_rowNumber_17 : decode cX0_rowNumber 17 = .ok (.iaload, 1) := by decide +kernel
theorem dX0_rowNumber_18 : decode cX0_rowNumber 18 = .ok (.istore 6, 2) := by decide +kernel
theorem dX0_rowNumber_20 : decode cX0_rowNumber 20 = .ok (.iload_n 3, 1) := by decide +kernel
theorem dX0_rowNumber_21 : decode cX0_rowNumber 21 = .ok (.aload_n 0, 1) := by decide +kernel
theorem dX0_rowNumber_22 : decode cX0_rowNumber 22 = .ok (.getfield 18, 3) := by decide +kernel
theorem dX0_rowNumber_25 : decode cX0_rowNumber 25 = .ok (.iload 5, 2) := by decide +kernel
theorem dX0_rowNumber_27 : decode cX0_rowNumber 27 = .ok (.isub, 1) := by decide +kernel
theorem dX0_rowNumber_28 : decode cX0_rowNumber 28 = .ok (.imul, 1) := by decide +kernel
theorem dX0_rowNumber_29 : decode cX0_rowNumber 29 = .ok (.iload 6, 2) := by decide +kernel
theorem dX0_rowNumber_31 : decode cX0_rowNumber 31 = .ok (.iadd, 1) := by decide +kernel
theorem dX0_rowNumber_32 : decode cX0_rowNumber 32 = .ok (.iload 4, 2) := by decide +kernel
theorem dX0_rowNumber_34 : decode cX0_rowNumber 34 = .ok (.iconst 1, 1) := by decide +kernel
theorem dX0_rowNumber_35 : decode cX0_rowNumber 35 = .ok (.iload 6, 2) := by decide +kernel
theorem dX0_rowNumber_37 : decode cX0_rowNumber 37 = .ok (.ishl, 1) := by decide +kernel
theorem dX0_rowNumber_38 : decode cX0_rowNumber 38 = .ok (.iconst 1, 1) := by decide +kernel
theorem dX0_rowNumber_39 : decode cX0_rowNumber 39 = .ok (.isub, 1) := by decide +kernel
theorem dX0_rowNumber_40 : decode cX0_rowNumber 40 = .ok (.iand, 1) := by decide +kernel
theorem dX0_rowNumber_41 : decode cX0_rowNumber 41 = .ok (.invokestatic 75, 3) := by decide +kernel
theorem dX0_rowNumber_44 : decode cX0_rowNumber 44 = .ok (.isub, 1) := by decide +kernel
theorem dX0_rowNumber_45 : decode cX0_rowNumber 45 = .ok (.istore_n 3, 1) := by decide +kernel
theorem dX0_rowNumber_46 : decode cX0_rowNumber 46 = .ok (.iload 4, 2) := by decide +kernel
theorem dX0_rowNumber_48 : decode cX0_rowNumber 48 = .ok (.iconst 1, 1) := by decide +kernel
theorem dX0_rowNumber_49 : decode cX0_rowNumber 49 = .ok (.iload 6, 2) := by decide +kernel
theorem dX0_rowNumber_51 : decode cX0_rowNumber 51 = .ok (.ishl, 1) := by decide +kernel
theorem dX0_rowNumber_52 : decode cX0_rowNumber 52 = .ok (.ior, 1) := by decide +kernel
theorem dX0_rowNumber_53 : decode cX0_rowNumber 53 = .ok (.istore 4, 2) := by decide +kernel
theorem dX0_rowNumber_55 : decode cX0_rowNumber 55 = .ok (.iinc 5 1, 3) := by decide +kernel
theorem dX0_rowNumber_58 : decode cX0_rowNumber 58 = .ok (.goto (-50), 3) := by decide +kernel
theorem dX0_rowNumber_61 : decode cX0_rowNumber 61 = .ok (.iload_n 3, 1) := by decide +kernel
theorem dX0_rowNumber_62 : decode cX0_rowNumber 62 = .ok (.ireturn, 1) := by decide +kernel
theorem dX0_sort_0 : decode cX0_sort 0 = .ok (.iconst 1, 1) := by decide +kernel
theorem dX0_sort_1 : decode cX0_sort 1 = .ok (.istore_n 2, 1) := by decide +kernel
theorem dX0_sort_2 : decode cX0_sort 2 = .ok (.iload_n 2, 1) := by decide +kernel
theorem dX0_sort_3 : decode cX0_sort 3 = .ok (.iload_n 1, 1) := by decide +kernel
theorem dX0_sort_4 : decode cX0_sort 4 = .ok (.if_icmp .ge 52, 3) := by decide +kernel
theorem dX0_sort_7 : decode cX0_sort 7 = .ok (.aload_n 0, 1) := by decide +kernel
theorem dX0_sort_8 : decode cX0_sort 8 = .ok (.iload_n 2, 1) := by decide +kernel
theorem dX0_sort_9 : decode cX0_sort 9 = .ok (.iaload, 1) := by decide +kernel
theorem dX0_sort_10 : decode cX0_sort 10 = .ok (.istore_n 3, 1) := by decide +kernel
theorem dX0_sort_11 : decode cX0_sort 11 = .ok (.iload_n 2, 1) := by decide +kernel
theorem dX0_sort_12 : decode cX0_sort 12 = .ok (.istore 4, 2) := by decide +kernel
theorem dX0_sort_14 : decode cX0_sort 14 = .ok (.iload 4, 2) := by decide +kernel
theorem dX0_sort_16 : decode cX0_sort 16 = .ok (.ifCond .le 29, 3) := by decide +kernel
theorem dX0_sort_19 : decode cX0_sort 19 = .ok (.aload_n 0, 1) := by decide +kernel
theorem dX0_sort_20 : decode cX0_sort 20 = .ok (.iload 4, 2) := by decide +kernel
theorem dX0_sort_22 : decode cX0_sort 22 = .ok (.iconst 1, 1) := by decide +kernel
theorem dX0_sort_23 : decode cX0_sort 23 = .ok (.isub, 1) := by decide +kernel
theorem dX0_sort_24 : decode cX0_sort 24 = .ok (.iaload, 1) := by decide +kernel
theorem dX0_sort_25 : decode cX0_sort 25 = .ok (.iload_n 3, 1) := by decide +kernel
theorem dX0_sort_26 : decode cX0_sort 26 = .ok (.if_icmp .le 19, 3) := by decide +kernel
theorem dX0_sort_29 : decode cX0_sort 29 = .ok (.aload_n 0, 1) := by decide +kernel
theorem dX0_sort_30 : decode cX0_sort 30 = .ok (.iload 4, 2) := by decide +kernel
theorem dX0_sort_32 : decode cX0_sort 32 = .ok (.aload_n 0, 1) := by decide +kernel
theorem dX0_sort_33 : decode cX0_sort 33 = .ok (.iload 4, 2) := by decide +kernel
theorem dX0_sort_35 : decode cX0_sort 35 = .ok (.iconst 1, 1) := by decide +kernel
theorem dX0_sort_36 : decode cX0_sort 36 = .ok (.isub, 1) := by decide +kernel
theorem dX0_sort_37 : decode cX0_sort 37 = .ok (.iaload, 1) := by decide +kernel
theorem dX0_sort_38 : decode cX0_sort 38 = .ok (.iastore, 1) := by decide +kernel
theorem dX0_sort_39 : decode cX0_sort 39 = .ok (.iinc 4 (-1), 3) := by decide +kernel
theorem dX0_sort_42 : decode cX0_sort 42 = .ok (.goto (-28), 3) := by decide +kernel
theorem dX0_sort_45 : decode cX0_sort 45 = .ok (.aload_n 0, 1) := by decide +kernel
theorem dX0_sort_46 : decode cX0_sort 46 = .ok (.iload 4, 2) := by decide +kernel
theorem dX0_sort_48 : decode cX0_sort 48 = .ok (.iload_n 3, 1) := by decide +kernel
theorem dX0_sort_49 : decode cX0_sort 49 = .ok (.iastore, 1) := by decide +kernel
theorem dX0_sort_50 : decode cX0_sort 50 = .ok (.iinc 2 1, 3) := by decide +kernel
theorem dX0_sort_53 : decode cX0_sort 53 = .ok (.goto (-51), 3) := by decide +kernel
theorem dX0_sort_56 : decode cX0_sort 56 = .ok (.return_, 1) := by decide +kernel
set_option maxHeartbeats 4000000 in
set_option maxRecDepth 100000 in
theorem sX0_clear {l : Launch} {D : va_G} {cA : Nat → ClassId} {base : Nat} {sA : Nat → Nat} {r0 : Nat} {h hE : Zh} (hf : fX0_clear r0 h = some hE) : zC l yX0_clear cX0_clear 1 none 0 0 D cA base sA [.ref (base + r0)] h none hE := by
  refine g_entry RX0 (by decide) rfl (Nat.le_of_ble_eq_true rfl) ?_
  intro p e s m args below meth c X hr
  unfold fX0_clear at hf
  have hf := zlet_n (x := h) rfl hf
  show zG p l e { frames := 0, cells := 0, slots := 0, locals := 0 } s m args below meth c (MQ below (zQ D cA base h hE none) args s 0 0 (zA base)) 1 D cA base h 0 [(0, .ref (base + r0))] [] h
  refine g_aload_n X 0 dX0_clear_0 rfl ?_
  refine g_iconst X (v := 0) dX0_clear_1 (by decide) ?_
  obtain ⟨hk1, hf⟩ := zite hf
  refine g_putI X zf0 hk1 0 (by decide) w_f_RX0_18 rfl rfl rfl dX0_clear_2 ?_
  refine g_hp (fun h2 eh2 => ?_)
  have hf := zlet_n eh2 hf
  refine g_aload_n X 0 dX0_clear_5 rfl ?_
  refine g_iconst X (v := 0) dX0_clear_6 (by decide) ?_
  refine g_putI X zf0 hk1 1 (by decide) w_f_RX0_21 rfl rfl rfl dX0_clear_7 ?_
  refine g_hp (fun h3 eh3 => ?_)
  have hf := zlet_n eh3 hf
  refine g_aload_n X 0 dX0_clear_10 rfl ?_
  refine g_iconst X (v := 0) dX0_clear_11 (by decide) ?_
  refine g_putI X zf0 hk1 2 (by decide) w_f_RX0_24 rfl rfl rfl dX0_clear_12 ?_
  refine g_hp (fun h4 eh4 => ?_)
  have hf := zlet_n eh4 hf
  refine g_aload_n X 0 dX0_clear_15 rfl ?_
  refine g_iconst X (v := 0) dX0_clear_16 (by decide) ?_
  refine g_putI X zf0 hk1 3 (by decide) w_f_RX0_27 rfl rfl rfl dX0_clear_17 ?_
  refine g_hp (fun h5 eh5 => ?_)
  have hf := zlet_n eh5 hf
  refine g_aload_n X 0 dX0_clear_20 rfl ?_
  refine g_iconst X (v := 0) dX0_clear_21 (by decide) ?_
  refine g_putI X zf0 hk1 4 (by decide) w_f_RX0_30 rfl rfl rfl dX0_clear_22 ?_
  refine g_hp (fun h6 eh6 => ?_)
  have hf := zlet_n eh6 hf
  refine g_aload_n X 0 dX0_clear_25 rfl ?_
  refine g_iconst X (v := 0) dX0_clear_26 (by decide) ?_
  refine g_putI X zf0 hk1 5 (by decide) w_f_RX0_33 rfl rfl rfl dX0_clear_27 ?_
  refine g_hp (fun h7 eh7 => ?_)
  have hf := zlet_n eh7 hf
  refine g_aload_n X 0 dX0_clear_30 rfl ?_
  refine g_iconst X (v := 0) dX0_clear_31 (by decide) ?_
  refine g_putZ X zf0 hk1 (Or.inl rfl) 6 (by decide) w_f_RX0_36 rfl rfl rfl dX0_clear_32 ?_
  refine g_hp (fun h8 eh8 => ?_)
  have hf := zlet_n eh8 hf
  refine g_aload_n X 0 dX0_clear_35 rfl ?_
  refine g_iconst X (v := 0) dX0_clear_36 (by decide) ?_
  refine g_putZ X zf0 hk1 (Or.inl rfl) 7 (by decide) w_f_RX0_40 rfl rfl rfl dX0_clear_37 ?_
  refine g_hp (fun h9 eh9 => ?_)
  have hf := zlet_n eh9 hf
  refine g_aload_n X 0 dX0_clear_40 rfl ?_
  refine g_iconst X (v := 0) dX0_clear_41 (by decide) ?_
  refine g_putZ X zf0 hk1 (Or.inl rfl) 8 (by decide) w_f_RX0_43 rfl rfl rfl dX0_clear_42 ?_
  refine g_hp (fun h10 eh10 => ?_)
  have hf := zlet_n eh10 hf
  refine g_aload_n X 0 dX0_clear_45 rfl ?_
  refine g_iconst X (v := 0) dX0_clear_46 (by decide) ?_
  refine g_putI X zf0 hk1 9 (by decide) w_f_RX0_46 rfl rfl rfl dX0_clear_47 ?_
  refine g_hp (fun h11 eh11 => ?_)
  have hf := zlet_n eh11 hf
  refine g_aload_n X 0 dX0_clear_50 rfl ?_
  refine g_iconst X (v := 0) dX0_clear_51 (by decide) ?_
  refine g_putI X zf0 hk1 10 (by decide) w_f_RX0_49 rfl rfl rfl dX0_clear_52 ?_
  refine g_hp (fun h12 eh12 => ?_)
  have hf := zlet_n eh12 hf
  refine g_aload_n X 0 dX0_clear_55 rfl ?_
  refine g_iconst X (v := 1) dX0_clear_56 (by decide) ?_
  refine g_putI X zf0 hk1 11 (by decide) w_f_RX0_9 rfl rfl rfl dX0_clear_57 ?_
  refine g_hp (fun h13 eh13 => ?_)
  have hf := zlet_n eh13 hf
  refine g_aload_n X 0 dX0_clear_60 rfl ?_
  refine g_iconst X (v := 1) dX0_clear_61 (by decide) ?_
  refine g_putI X zf0 hk1 12 (by decide) w_f_RX0_15 rfl rfl rfl dX0_clear_62 ?_
  refine g_hp (fun h14 eh14 => ?_)
  have hf := zlet_n eh14 hf
  cases hf
  exact g_vret X hr dX0_clear_65

set_option maxHeartbeats 4000000 in
set_option maxRecDepth 100000 in
theorem sX0_falling {l : Launch} {D : va_G} {cA : Nat → ClassId} {base : Nat} {sA : Nat → Nat} {x0 : Int32} {x1 : Int32} {h hE : Zh} {rE : Int64} (hf : fX0_falling x0 x1 h = some (rE, hE)) : zC l yX0_falling cX0_falling 5 (some .long) 0 0 D cA base sA [.int x0, .int x1] h (some (.long rE)) hE := by
  refine g_entry RX0 (by decide) rfl (Nat.le_of_ble_eq_true rfl) ?_
  intro p e s m args below meth c X hr
  unfold fX0_falling at hf
  have hf := zlet_n (x := h) rfl hf
  show zG p l e { frames := 0, cells := 0, slots := 0, locals := 0 } s m args below meth c (MQ below (zQ D cA base h hE (some (.long rE))) args s 0 0 (zA base)) 5 D cA base h 0 [(0, .int x0), (1, .int x1)] [] h
  refine g_lconst X (v := 1) dX0_falling_0 (by decide) ?_
  refine g_lstore_n X [(2, .long ((1 : Int64))), (0, .int x0), (1, .int x1)] dX0_falling_1 (by decide) rfl ?_
  refine g_iconst X (v := 0) dX0_falling_2 (by decide) ?_
  refine g_istore X [(4, .int ((0 : Int32))), (2, .long ((1 : Int64))), (0, .int x0), (1, .int x1)] dX0_falling_3 (by decide) rfl ?_
  refine g_sub [2, 3, 1, 0] rfl ?_
  obtain ⟨qq, hlp, hf⟩ := zbd hf
  refine lp_snd (body := (fun q : Int64 × Int32 × Zh => bX0_falling_5 h x0 x1 q.1 q.2.1 q.2.2)) (P := (fun q : Int64 × Int32 × Zh => zG p l e { frames := 0, cells := 0, slots := 0, locals := 0 } s m args below meth c (MQ below (zQ D cA base h hE (some (.long rE))) args s 0 0 (zA base)) 5 D cA base h 5 [(0, .int x0), (1, .int x1), (2, .long q.1), (4, .int q.2.1)] [] q.2.2)) (E := (fun (en : Nat) (q : Int64 × Int32 × Zh) => zG p l e { frames := 0, cells := 0, slots := 0, locals := 0 } s m args below meth c (MQ below (zQ D cA base h hE (some (.long rE))) args s 0 0 (zA base)) 5 D cA base h 25 [(2, .long q.1)] [] q.2.2)) ?_ zB ((1 : Int64), ((0 : Int32), h)) qq.1 qq.2 hlp ?_
  · intro q e_5 q_5 hf hc0 hc1
    obtain ⟨j2_5, x4_5, h_5⟩ := q
    have hf : bX0_falling_5 h x0 x1 j2_5 x4_5 h_5 = some (e_5, q_5) := hf
    unfold bX0_falling_5 at hf
    show zG p l e { frames := 0, cells := 0, slots := 0, locals := 0 } s m args below meth c (MQ below (zQ D cA base h hE (some (.long rE))) args s 0 0 (zA base)) 5 D cA base h 5 [(0, .int x0), (1, .int x1), (2, .long j2_5), (4, .int x4_5)] [] h_5
    refine g_iload X 3 dX0_falling_5 rfl ?_
    refine g_iload_n X 1 dX0_falling_7 rfl ?_
    refine g_icmp_ge X 25 dX0_falling_8 (by decide) (fun hq => ?_) (fun hq => ?_)
    · have hf := zpos hq hf
      cases hf
      have hc1 := hc1 (by decide)
      exact g_sub [2] rfl hc1
    · have hf := zneg hq hf
      refine g_lload_n X 2 dX0_falling_11 rfl ?_
      refine g_iload_n X 0 dX0_falling_12 rfl ?_
      refine g_iload X 3 dX0_falling_13 rfl ?_
      refine g_isub X dX0_falling_15 ?_
      refine g_i2l X dX0_falling_16 ?_
      refine g_lmul X dX0_falling_17 ?_
      refine g_topl (fun y1 ey1 => ?_)
      have hf := zlet_n ey1 hf
      refine g_lstore_n X [(2, .long y1), (0, .int x0), (1, .int x1), (4, .int x4_5)] dX0_falling_18 (by decide) rfl ?_
      obtain ⟨y2, ey2⟩ : ∃ y : Int32, y = x4_5 + (1 : Int32) := ⟨_, rfl⟩
      have hf := zlet_n ey2 hf
      refine g_iinc X (j := 3) [(4, .int y2), (2, .long y1), (0, .int x0), (1, .int x1)] dX0_falling_19 rfl (by rw [ey2]; rfl) (by decide) rfl ?_
      refine g_goto X 5 dX0_falling_22 (by decide) ?_
      cases hf
      exact g_sub [2, 3, 1, 0] rfl (hc0 rfl)
  · obtain ⟨ee, j2_k5, x4_k5, h_k5⟩ := qq
    have hf : kX0_falling_5 h ee j2_k5 x4_k5 h_k5 = some (rE, hE) := hf
    unfold kX0_falling_5 at hf
    show zG p l e { frames := 0, cells := 0, slots := 0, locals := 0 } s m args below meth c (MQ below (zQ D cA base h hE (some (.long rE))) args s 0 0 (zA base)) 5 D cA base h 25 [(2, .long j2_k5)] [] h_k5
    refine g_lload_n X 0 dX0_falling_25 rfl ?_
    obtain ⟨rfl, rfl⟩ := zsm hf
    exact g_lret X hr dX0_falling_26

set_option maxHeartbeats 4000000 in
set_option maxRecDepth 100000 in
theorem sX0_choose {l : Launch} {D : va_G} {cA : Nat → ClassId} {base : Nat} {sA : Nat → Nat} {x0 : Int32} {x1 : Int32} {h hE : Zh} {rE : Int64} (hf : fX0_choose x0 x1 h = some (rE, hE)) : zC l yX0_choose cX0_choose 5 (some .long) 0 0 D cA base sA [.int x0, .int x1] h (some (.long rE)) hE := by
  refine g_entry RX0 (by decide) rfl (Nat.le_of_ble_eq_true rfl) ?_
  intro p e s m args below meth c X hr
  unfold fX0_choose at hf
  have hf := zlet_n (x := h) rfl hf
  show zG p l e { frames := 0, cells := 0, slots := 0, locals := 0 } s m args below meth c (MQ below (zQ D cA base h hE (some (.long rE))) args s 0 0 (zA base)) 5 D cA base h 0 [(0, .int x0), (1, .int x1)] [] h
  refine g_lconst X (v := 1) dX0_choose_0 (by decide) ?_
  refine g_lstore_n X [(2, .long ((1 : Int64))), (0, .int x0), (1, .int x1)] dX0_choose_1 (by decide) rfl ?_
  refine g_iconst X (v := 0) dX0_choose_2 (by decide) ?_
  refine g_istore X [(4, .int ((0 : Int32))), (2, .long ((1 : Int64))), (0, .int x0), (1, .int x1)] dX0_choose_3 (by decide) rfl ?_
  refine g_sub [2, 3, 1, 0] rfl ?_
  obtain ⟨qq, hlp, hf⟩ := zbd hf
  refine lp_snd (body := (fun q : Int64 × Int32 × Zh => bX0_choose_5 h x0 x1 q.1 q.2.1 q.2.2)) (P := (fun q : Int64 × Int32 × Zh => zG p l e { frames := 0, cells := 0, slots := 0, locals := 0 } s m args below meth c (MQ below (zQ D cA base h hE (some (.long rE))) args s 0 0 (zA base)) 5 D cA base h 5 [(0, .int x0), (1, .int x1), (2, .long q.1), (4, .int q.2.1)] [] q.2.2)) (E := (fun (en : Nat) (q : Int64 × Int32 × Zh) => zG p l e { frames := 0, cells := 0, slots := 0, locals := 0 } s m args below meth c (MQ below (zQ D cA base h hE (some (.long rE))) args s 0 0 (zA base)) 5 D cA base h 31 [(2, .long q.1)] [] q.2.2)) ?_ zB ((1 : Int64), ((0 : Int32), h)) qq.1 qq.2 hlp ?_
  · intro q e_5 q_5 hf hc0 hc1
    obtain ⟨j2_5, x4_5, h_5⟩ := q
    have hf : bX0_choose_5 h x0 x1 j2_5 x4_5 h_5 = some (e_5, q_5) := hf
    unfold bX0_choose_5 at hf
    show zG p l e { frames := 0, cells := 0, slots := 0, locals := 0 } s m args below meth c (MQ below (zQ D cA base h hE (some (.long rE))) args s 0 0 (zA base)) 5 D cA base h 5 [(0, .int x0), (1, .int x1), (2, .long j2_5), (4, .int x4_5)] [] h_5
    refine g_iload X 3 dX0_choose_5 rfl ?_
    refine g_iload_n X 1 dX0_choose_7 rfl ?_
    refine g_icmp_ge X 31 dX0_choose_8 (by decide) (fun hq => ?_) (fun hq => ?_)
    · have hf := zpos hq hf
      cases hf
      have hc1 := hc1 (by decide)
      exact g_sub [2] rfl hc1
    · have hf := zneg hq hf
      refine g_lload_n X 2 dX0_choose_11 rfl ?_
      refine g_iload_n X 0 dX0_choose_12 rfl ?_
      refine g_iload X 3 dX0_choose_13 rfl ?_
      refine g_isub X dX0_choose_15 ?_
      refine g_i2l X dX0_choose_16 ?_
      refine g_lmul X dX0_choose_17 ?_
      refine g_iload X 3 dX0_choose_18 rfl ?_
      refine g_iconst X (v := 1) dX0_choose_20 (by decide) ?_
      refine g_iadd X dX0_choose_21 ?_
      refine g_i2l X dX0_choose_22 ?_
      obtain ⟨hn1, hf⟩ := zite hf
      refine g_ldiv X hn1 dX0_choose_23 ?_
      refine g_topl (fun y2 ey2 => ?_)
      have hf := zlet_n ey2 hf
      refine g_lstore_n X [(2, .long y2), (0, .int x0), (1, .int x1), (4, .int x4_5)] dX0_choose_24 (by decide) rfl ?_
      obtain ⟨y3, ey3⟩ : ∃ y : Int32, y = x4_5 + (1 : Int32) := ⟨_, rfl⟩
      have hf := zlet_n ey3 hf
      refine g_iinc X (j := 3) [(4, .int y3), (2, .long y2), (0, .int x0), (1, .int x1)] dX0_choose_25 rfl (by rw [ey3]; rfl) (by decide) rfl ?_
      refine g_goto X 5 dX0_choose_28 (by decide) ?_
      cases hf
      exact g_sub [2, 3, 1, 0] rfl (hc0 rfl)
  · obtain ⟨ee, j2_k5, x4_k5, h_k5⟩ := qq
    have hf : kX0_choose_5 h ee j2_k5 x4_k5 h_k5 = some (rE, hE) := hf
    unfold kX0_choose_5 at hf
    show zG p l e { frames := 0, cells := 0, slots := 0, locals := 0 } s m args below meth c (MQ below (zQ D cA base h hE (some (.long rE))) args s 0 0 (zA base)) 5 D cA base h 31 [(2, .long j2_k5)] [] h_k5
    refine g_lload_n X 0 dX0_choose_31 rfl ?_
    obtain ⟨rfl, rfl⟩ := zsm hf
    exact g_lret X hr dX0_choose_32

set_option maxHeartbeats 4000000 in
set_option maxRecDepth 100000 in
theorem sX0_handsOf {l : Launch} {D : va_G} {cA : Nat → ClassId} {base : Nat} {sA : Nat → Nat} {r0 : Nat} {x1 : Int32} {h hE : Zh} {rE : Int64} (hf : fX0_handsOf r0 x1 h = some (rE, hE)) : zC l yX0_handsOf cX0_handsOf 2 (some .long) 1 24 D cA base sA [.ref (base + r0), .int x1] h (some (.long rE)) hE := by
  refine g_entry RX0 (by decide) rfl (Nat.le_of_ble_eq_true rfl) ?_
  intro p e s m args below meth c X hr
  unfold fX0_handsOf at hf
  have hf := zlet_n (x := h) rfl hf
  show zG p l e { frames := 1, cells := 0, slots := 0, locals := 24 } s m args below meth c (MQ below (zQ D cA base h hE (some (.long rE))) args s 0 0 (zA base)) 2 D cA base h 0 [(0, .ref (base + r0)), (1, .int x1)] [] h
  refine g_aload_n X 0 dX0_handsOf_0 rfl ?_
  obtain ⟨hk1, hf⟩ := zite hf
  refine g_get X zf0 hk1 6 (by decide) w_f_RX0_36 rfl rfl dX0_handsOf_1 ?_
  refine g_if_eq X 18 dX0_handsOf_4 (by decide) (fun hq => ?_) (fun hq => ?_)
  · have hf := zpos hq hf
    refine g_iload_n X 1 dX0_handsOf_18 rfl ?_
    refine g_aload_n X 0 dX0_handsOf_19 rfl ?_
    refine g_get X zf0 hk1 3 (by decide) w_f_RX0_27 rfl rfl dX0_handsOf_20 ?_
    obtain ⟨v3, h2, hch2, hf⟩ := zc2_e hf
    refine g_callS X 2 (sX0_choose hch2) ysX0_choose w_ml_RX0_60 w_static_X0_choose w_ini_RX0 w_code_X0_choose (by decide) rfl (st := []) rfl rfl (Nat.le_of_ble_eq_true rfl) dX0_handsOf_23 ?_
    obtain ⟨rfl, rfl⟩ := zsm hf
    exact g_lret X hr dX0_handsOf_26
  · have hf := zneg hq hf
    refine g_iload_n X 1 dX0_handsOf_7 rfl ?_
    refine g_aload_n X 0 dX0_handsOf_8 rfl ?_
    refine g_get X zf0 hk1 3 (by decide) w_f_RX0_27 rfl rfl dX0_handsOf_9 ?_
    obtain ⟨v5, h4, hch4, hf⟩ := zc2_e hf
    refine g_callS X 2 (sX0_falling hch4) ysX0_falling w_ml_RX0_52 w_static_X0_falling w_ini_RX0 w_code_X0_falling (by decide) rfl (st := []) rfl rfl (Nat.le_of_ble_eq_true rfl) dX0_handsOf_12 ?_
    refine g_goto X 26 dX0_handsOf_15 (by decide) ?_
    obtain ⟨rfl, rfl⟩ := zsm hf
    exact g_lret X hr dX0_handsOf_26

set_option maxHeartbeats 4000000 in
set_option maxRecDepth 100000 in
theorem sX0_settle {l : Launch} {D : va_G} {cA : Nat → ClassId} {base : Nat} {sA : Nat → Nat} {r0 : Nat} {h hE : Zh} (hf : fX0_settle r0 h = some hE) : zC l yX0_settle cX0_settle 1 none 2 45 D cA base sA [.ref (base + r0)] h none hE := by
  refine g_entry RX0 (by decide) rfl (Nat.le_of_ble_eq_true rfl) ?_
  intro p e s m args below meth c X hr
  unfold fX0_settle at hf
  have hf := zlet_n (x := h) rfl hf
  show zG p l e { frames := 2, cells := 0, slots := 0, locals := 45 } s m args below meth c (MQ below (zQ D cA base h hE none) args s 0 0 (zA base)) 1 D cA base h 0 [(0, .ref (base + r0))] [] h
  refine g_aload_n X 0 dX0_settle_0 rfl ?_
  refine g_aload_n X 0 dX0_settle_1 rfl ?_
  obtain ⟨hk1, hf⟩ := zite hf
  refine g_get X zf0 hk1 1 (by decide) w_f_RX0_21 rfl rfl dX0_settle_2 ?_
  have hJ24 : ∀ (t0_24 : Int32) (t1_24 : Nat) (h_24 : Zh), jX0_settle_24 h r0 t0_24 t1_24 h_24 = some hE → zG p l e { frames := 2, cells := 0, slots := 0, locals := 45 } s m args below meth c (MQ below (zQ D cA base h hE none) args s 0 0 (zA base)) 1 D cA base h 24 [(0, .ref (base + r0))] [.int t0_24, .ref (base + t1_24)] h_24 := by
    intro t0_24 t1_24 h_24 hf
    unfold jX0_settle_24 at hf
    obtain ⟨hk2, hf⟩ := zite hf
    refine g_putI X zf0 hk2 2 (by decide) w_f_RX0_24 rfl rfl rfl dX0_settle_24 ?_
    refine g_hp (fun h3 eh3 => ?_)
    have hf := zlet_n eh3 hf
    refine g_aload_n X 0 dX0_settle_27 rfl ?_
    refine g_aload_n X 0 dX0_settle_28 rfl ?_
    refine g_get X zf0 hk1 3 (by decide) w_f_RX0_27 rfl rfl dX0_settle_29 ?_
    refine g_aload_n X 0 dX0_settle_32 rfl ?_
    refine g_get X zf0 hk1 4 (by decide) w_f_RX0_30 rfl rfl dX0_settle_33 ?_
    refine g_isub X dX0_settle_36 ?_
    refine g_putI X zf0 hk1 5 (by decide) w_f_RX0_33 rfl rfl rfl dX0_settle_37 ?_
    refine g_hp (fun h4 eh4 => ?_)
    have hf := zlet_n eh4 hf
    refine g_aload_n X 0 dX0_settle_40 rfl ?_
    refine g_aload_n X 0 dX0_settle_41 rfl ?_
    refine g_get X zf0 hk1 5 (by decide) w_f_RX0_33 rfl rfl dX0_settle_42 ?_
    refine g_aload_n X 0 dX0_settle_45 rfl ?_
    refine g_get X zf0 hk1 5 (by decide) w_f_RX0_33 rfl rfl dX0_settle_46 ?_
    obtain ⟨v6, h5, hch5, hf⟩ := zc2_e hf
    refine g_callS X 2 (sX0_falling hch5) ysX0_falling w_ml_RX0_52 w_static_X0_falling w_ini_RX0 w_code_X0_falling (by decide) rfl (st := [.ref (base + r0)]) rfl rfl (Nat.le_of_ble_eq_true rfl) dX0_settle_49 ?_
    refine g_l2i X dX0_settle_52 ?_
    refine g_putI X zf0 hk1 11 (by decide) w_f_RX0_9 rfl rfl rfl dX0_settle_53 ?_
    refine g_hp (fun h7 eh7 => ?_)
    have hf := zlet_n eh7 hf
    refine g_aload_n X 0 dX0_settle_56 rfl ?_
    refine g_aload_n X 0 dX0_settle_57 rfl ?_
    refine g_get X zf0 hk1 8 (by decide) w_f_RX0_43 rfl rfl dX0_settle_58 ?_
    have hJ74 : ∀ (t0_74 : Int32) (t1_74 : Nat) (h_74 : Zh), jX0_settle_74 h r0 t0_74 t1_74 h_74 = some hE → zG p l e { frames := 2, cells := 0, slots := 0, locals := 45 } s m args below meth c (MQ below (zQ D cA base h hE none) args s 0 0 (zA base)) 1 D cA base h 74 [(0, .ref (base + r0))] [.int t0_74, .ref (base + t1_74)] h_74 := by
      intro t0_74 t1_74 h_74 hf
      unfold jX0_settle_74 at hf
      obtain ⟨hk8, hf⟩ := zite hf
      refine g_putI X zf0 hk8 12 (by decide) w_f_RX0_15 rfl rfl rfl dX0_settle_74 ?_
      refine g_hp (fun h9 eh9 => ?_)
      have hf := zlet_n eh9 hf
      refine g_aload_n X 0 dX0_settle_77 rfl ?_
      refine g_aload_n X 0 dX0_settle_78 rfl ?_
      refine g_aload_n X 0 dX0_settle_79 rfl ?_
      refine g_get X zf0 hk1 0 (by decide) w_f_RX0_18 rfl rfl dX0_settle_80 ?_
      obtain ⟨v11, h10, hch10, hf⟩ := zc2_e hf
      refine g_callV X 1 (sX0_handsOf hch10) zf0 hk1 ydX0_handsOf w_ml_RX0_56 w_instanceMethod_X0_handsOf w_sel_X0_handsOf w_ini_RX0 w_code_X0_handsOf (by decide) rfl (st := [.ref (base + r0)]) rfl rfl (Nat.le_of_ble_eq_true rfl) dX0_settle_83 ?_
      refine g_l2i X dX0_settle_86 ?_
      refine g_putI X zf0 hk1 9 (by decide) w_f_RX0_46 rfl rfl rfl dX0_settle_87 ?_
      refine g_hp (fun h12 eh12 => ?_)
      have hf := zlet_n eh12 hf
      refine g_aload_n X 0 dX0_settle_90 rfl ?_
      refine g_aload_n X 0 dX0_settle_91 rfl ?_
      refine g_get X zf0 hk1 0 (by decide) w_f_RX0_18 rfl rfl dX0_settle_92 ?_
      refine g_aload_n X 0 dX0_settle_95 rfl ?_
      refine g_get X zf0 hk1 5 (by decide) w_f_RX0_33 rfl rfl dX0_settle_96 ?_
      obtain ⟨v14, h13, hch13, hf⟩ := zc2_e hf
      refine g_callS X 2 (sX0_falling hch13) ysX0_falling w_ml_RX0_52 w_static_X0_falling w_ini_RX0 w_code_X0_falling (by decide) rfl (st := [.ref (base + r0)]) rfl rfl (Nat.le_of_ble_eq_true rfl) dX0_settle_99 ?_
      refine g_l2i X dX0_settle_102 ?_
      refine g_aload_n X 0 dX0_settle_103 rfl ?_
      refine g_get X zf0 hk1 12 (by decide) w_f_RX0_15 rfl rfl dX0_settle_104 ?_
      refine g_imul X dX0_settle_107 ?_
      refine g_putI X zf0 hk1 10 (by decide) w_f_RX0_49 rfl rfl rfl dX0_settle_108 ?_
      refine g_hp (fun h15 eh15 => ?_)
      have hf := zlet_n eh15 hf
      cases hf
      exact g_vret X hr dX0_settle_111
    refine g_if_eq X 73 dX0_settle_61 (by decide) (fun hq => ?_) (fun hq => ?_)
    · have hf := zpos hq hf
      refine g_iconst X (v := 1) dX0_settle_73 (by decide) ?_
      refine g_sub [0] rfl ?_
      exact hJ74 _ _ _ hf
    · have hf := zneg hq hf
      refine g_iconst X (v := 1) dX0_settle_64 (by decide) ?_
      refine g_aload_n X 0 dX0_settle_65 rfl ?_
      refine g_get X zf0 hk1 5 (by decide) w_f_RX0_33 rfl rfl dX0_settle_66 ?_
      refine g_ishl X dX0_settle_69 ?_
      refine g_goto X 74 dX0_settle_70 (by decide) ?_
      refine g_sub [0] rfl ?_
      exact hJ74 _ _ _ hf
  refine g_if_le X 20 dX0_settle_5 (by decide) (fun hq => ?_) (fun hq => ?_)
  · have hf := zpos hq hf
    refine g_aload_n X 0 dX0_settle_20 rfl ?_
    refine g_get X zf0 hk1 0 (by decide) w_f_RX0_18 rfl rfl dX0_settle_21 ?_
    refine g_sub [0] rfl ?_
    exact hJ24 _ _ _ hf
  · have hf := zneg hq hf
    refine g_aload_n X 0 dX0_settle_8 rfl ?_
    refine g_get X zf0 hk1 0 (by decide) w_f_RX0_18 rfl rfl dX0_settle_9 ?_
    refine g_aload_n X 0 dX0_settle_12 rfl ?_
    refine g_get X zf0 hk1 1 (by decide) w_f_RX0_21 rfl rfl dX0_settle_13 ?_
    obtain ⟨hn16, hf⟩ := zite hf
    refine g_idiv X hn16 dX0_settle_16 ?_
    refine g_goto X 24 dX0_settle_17 (by decide) ?_
    refine g_sub [0] rfl ?_
    exact hJ24 _ _ _ hf

set_option maxHeartbeats 4000000 in
set_option maxRecDepth 100000 in
theorem sX0_anyOrder {l : Launch} {D : va_G} {cA : Nat → ClassId} {base : Nat} {sA : Nat → Nat} {r0 : Nat} {h hE : Zh} {rE : Int32} (hf : fX0_anyOrder r0 h = some (rE, hE)) : zC l yX0_anyOrder cX0_anyOrder 1 (some .boolean) 0 0 D cA base sA [.ref (base + r0)] h (some (.int rE)) hE := by
  refine g_entry RX0 (by decide) rfl (Nat.le_of_ble_eq_true rfl) ?_
  intro p e s m args below meth c X hr
  unfold fX0_anyOrder at hf
  have hf := zlet_n (x := h) rfl hf
  show zG p l e { frames := 0, cells := 0, slots := 0, locals := 0 } s m args below meth c (MQ below (zQ D cA base h hE (some (.int rE))) args s 0 0 (zA base)) 1 D cA base h 0 [(0, .ref (base + r0))] [] h
  refine g_aload_n X 0 dX0_anyOrder_0 rfl ?_
  obtain ⟨hk1, hf⟩ := zite hf
  refine g_get X zf0 hk1 6 (by decide) w_f_RX0_36 rfl rfl dX0_anyOrder_1 ?_
  refine g_if_ne X 18 dX0_anyOrder_4 (by decide) (fun hq => ?_) (fun hq => ?_)
  · have hf := zneg hq hf
    refine g_iconst X (v := 0) dX0_anyOrder_18 (by decide) ?_
    obtain ⟨rfl, rfl⟩ := zsm hf
    exact g_zret X (Or.inl rfl) hr dX0_anyOrder_19
  · have hf := zpos hq hf
    refine g_aload_n X 0 dX0_anyOrder_7 rfl ?_
    refine g_get X zf0 hk1 7 (by decide) w_f_RX0_40 rfl rfl dX0_anyOrder_8 ?_
    refine g_if_ne X 18 dX0_anyOrder_11 (by decide) (fun hq => ?_) (fun hq => ?_)
    · have hf := zneg hq hf
      refine g_iconst X (v := 0) dX0_anyOrder_18 (by decide) ?_
      obtain ⟨rfl, rfl⟩ := zsm hf
      exact g_zret X (Or.inl rfl) hr dX0_anyOrder_19
    · have hf := zpos hq hf
      refine g_iconst X (v := 1) dX0_anyOrder_14 (by decide) ?_
      refine g_goto X 19 dX0_anyOrder_15 (by decide) ?_
      obtain ⟨rfl, rfl⟩ := zsm hf
      exact g_zret X (Or.inr rfl) hr dX0_anyOrder_19

set_option maxHeartbeats 4000000 in
set_option maxRecDepth 100000 in
theorem sX0_rowsOf {l : Launch} {D : va_G} {cA : Nat → ClassId} {base : Nat} {sA : Nat → Nat} {r0 : Nat} {x1 : Int32} {h hE : Zh} {rE : Int64} (hf : fX0_rowsOf r0 x1 h = some (rE, hE)) : zC l yX0_rowsOf cX0_rowsOf 2 (some .long) 1 24 D cA base sA [.ref (base + r0), .int x1] h (some (.long rE)) hE := by
  refine g_entry RX0 (by decide) rfl (Nat.le_of_ble_eq_true rfl) ?_
  intro p e s m args below meth c X hr
  unfold fX0_rowsOf at hf
  have hf := zlet_n (x := h) rfl hf
  show zG p l e { frames := 1, cells := 0, slots := 0, locals := 24 } s m args below meth c (MQ below (zQ D cA base h hE (some (.long rE))) args s 0 0 (zA base)) 2 D cA base h 0 [(0, .ref (base + r0)), (1, .int x1)] [] h
  refine g_aload_n X 0 dX0_rowsOf_0 rfl ?_
  obtain ⟨hk1, hf⟩ := zite hf
  refine g_get X zf0 hk1 7 (by decide) w_f_RX0_40 rfl rfl dX0_rowsOf_1 ?_
  refine g_if_eq X 18 dX0_rowsOf_4 (by decide) (fun hq => ?_) (fun hq => ?_)
  · have hf := zpos hq hf
    refine g_iload_n X 1 dX0_rowsOf_18 rfl ?_
    refine g_aload_n X 0 dX0_rowsOf_19 rfl ?_
    refine g_get X zf0 hk1 5 (by decide) w_f_RX0_33 rfl rfl dX0_rowsOf_20 ?_
    obtain ⟨v3, h2, hch2, hf⟩ := zc2_e hf
    refine g_callS X 2 (sX0_falling hch2) ysX0_falling w_ml_RX0_52 w_static_X0_falling w_ini_RX0 w_code_X0_falling (by decide) rfl (st := []) rfl rfl (Nat.le_of_ble_eq_true rfl) dX0_rowsOf_23 ?_
    refine g_aload_n X 0 dX0_rowsOf_26 rfl ?_
    refine g_get X zf0 hk1 12 (by decide) w_f_RX0_15 rfl rfl dX0_rowsOf_27 ?_
    refine g_i2l X dX0_rowsOf_30 ?_
    refine g_lmul X dX0_rowsOf_31 ?_
    obtain ⟨rfl, rfl⟩ := zsm hf
    exact g_lret X hr dX0_rowsOf_32
  · have hf := zneg hq hf
    refine g_iload_n X 1 dX0_rowsOf_7 rfl ?_
    refine g_aload_n X 0 dX0_rowsOf_8 rfl ?_
    refine g_get X zf0 hk1 5 (by decide) w_f_RX0_33 rfl rfl dX0_rowsOf_9 ?_
    obtain ⟨v5, h4, hch4, hf⟩ := zc2_e hf
    refine g_callS X 2 (sX0_choose hch4) ysX0_choose w_ml_RX0_60 w_static_X0_choose w_ini_RX0 w_code_X0_choose (by decide) rfl (st := []) rfl rfl (Nat.le_of_ble_eq_true rfl) dX0_rowsOf_12 ?_
    refine g_goto X 26 dX0_rowsOf_15 (by decide) ?_
    refine g_aload_n X 0 dX0_rowsOf_26 rfl ?_
    refine g_get X zf0 hk1 12 (by decide) w_f_RX0_15 rfl rfl dX0_rowsOf_27 ?_
    refine g_i2l X dX0_rowsOf_30 ?_
    refine g_lmul X dX0_rowsOf_31 ?_
    obtain ⟨rfl, rfl⟩ := zsm hf
    exact g_lret X hr dX0_rowsOf_32

set_option maxHeartbeats 4000000 in
set_option maxRecDepth 100000 in
theorem sX0_waysToShow {l : Launch} {D : va_G} {cA : Nat → ClassId} {base : Nat} {sA : Nat → Nat} {r0 : Nat} {h hE : Zh} {rE : Int32} (hf : fX0_waysToShow r0 h = some (rE, hE)) : zC l yX0_waysToShow cX0_waysToShow 3 (some .int) 1 24 D cA base sA [.ref (base + r0)] h (some (.int rE)) hE := by
  refine g_entry RX0 (by decide) rfl (Nat.le_of_ble_eq_true rfl) ?_
  intro p e s m args below meth c X hr
  unfold fX0_waysToShow at hf
  have hf := zlet_n (x := h) rfl hf
  show zG p l e { frames := 1, cells := 0, slots := 0, locals := 24 } s m args below meth c (MQ below (zQ D cA base h hE (some (.int rE))) args s 0 0 (zA base)) 3 D cA base h 0 [(0, .ref (base + r0))] [] h
  refine g_aload_n X 0 dX0_waysToShow_0 rfl ?_
  obtain ⟨hk1, hf⟩ := zite hf
  obtain ⟨v3, h2, hch2, hf⟩ := zc2_e hf
  refine g_callV X 0 (sX0_anyOrder hch2) zf0 hk1 ydX0_anyOrder w_ml_RX0_63 w_instanceMethod_X0_anyOrder w_sel_X0_anyOrder w_ini_RX0 w_code_X0_anyOrder (by decide) rfl (st := []) rfl rfl (Nat.le_of_ble_eq_true rfl) dX0_waysToShow_1 ?_
  refine g_if_eq X 21 dX0_waysToShow_4 (by decide) (fun hq => ?_) (fun hq => ?_)
  · have hf := zpos hq hf
    refine g_aload_n X 0 dX0_waysToShow_21 rfl ?_
    refine g_get X zf0 hk1 3 (by decide) w_f_RX0_27 rfl rfl dX0_waysToShow_22 ?_
    refine g_aload_n X 0 dX0_waysToShow_25 rfl ?_
    refine g_get X zf0 hk1 5 (by decide) w_f_RX0_33 rfl rfl dX0_waysToShow_26 ?_
    obtain ⟨v5, h4, hch4, hf⟩ := zc2_e hf
    refine g_callS X 2 (sX0_choose hch4) ysX0_choose w_ml_RX0_60 w_static_X0_choose w_ini_RX0 w_code_X0_choose (by decide) rfl (st := []) rfl rfl (Nat.le_of_ble_eq_true rfl) dX0_waysToShow_29 ?_
    refine g_lstore_n X [(1, .long v5), (0, .ref (base + r0))] dX0_waysToShow_32 (by decide) rfl ?_
    refine g_lload_n X 0 dX0_waysToShow_33 rfl ?_
    refine g_l2i X dX0_waysToShow_34 ?_
    refine g_aload_n X 1 dX0_waysToShow_35 rfl ?_
    refine g_get X zf0 hk1 12 (by decide) w_f_RX0_15 rfl rfl dX0_waysToShow_36 ?_
    refine g_imul X dX0_waysToShow_39 ?_
    obtain ⟨rfl, rfl⟩ := zsm hf
    exact g_iret X hr dX0_waysToShow_40
  · have hf := zneg hq hf
    refine g_aload_n X 0 dX0_waysToShow_7 rfl ?_
    refine g_get X zf0 hk1 3 (by decide) w_f_RX0_27 rfl rfl dX0_waysToShow_8 ?_
    refine g_aload_n X 0 dX0_waysToShow_11 rfl ?_
    refine g_get X zf0 hk1 5 (by decide) w_f_RX0_33 rfl rfl dX0_waysToShow_12 ?_
    obtain ⟨v7, h6, hch6, hf⟩ := zc2_e hf
    refine g_callS X 2 (sX0_falling hch6) ysX0_falling w_ml_RX0_52 w_static_X0_falling w_ini_RX0 w_code_X0_falling (by decide) rfl (st := []) rfl rfl (Nat.le_of_ble_eq_true rfl) dX0_waysToShow_15 ?_
    refine g_goto X 32 dX0_waysToShow_18 (by decide) ?_
    refine g_lstore_n X [(1, .long v7), (0, .ref (base + r0))] dX0_waysToShow_32 (by decide) rfl ?_
    refine g_lload_n X 0 dX0_waysToShow_33 rfl ?_
    refine g_l2i X dX0_waysToShow_34 ?_
    refine g_aload_n X 1 dX0_waysToShow_35 rfl ?_
    refine g_get X zf0 hk1 12 (by decide) w_f_RX0_15 rfl rfl dX0_waysToShow_36 ?_
    refine g_imul X dX0_waysToShow_39 ?_
    obtain ⟨rfl, rfl⟩ := zsm hf
    exact g_iret X hr dX0_waysToShow_40

set_option maxHeartbeats 4000000 in
set_option maxRecDepth 100000 in
theorem sX0_cardAt {l : Launch} {D : va_G} {cA : Nat → ClassId} {base : Nat} {sA : Nat → Nat} {x0 : Int32} {x1 : Int32} {h hE : Zh} {rE : Int32} (hf : fX0_cardAt x0 x1 h = some (rE, hE)) : zC l yX0_cardAt cX0_cardAt 2 (some .int) 0 0 D cA base sA [.int x0, .int x1] h (some (.int rE)) hE := by
  refine g_entry RX0 (by decide) rfl (Nat.le_of_ble_eq_true rfl) ?_
  intro p e s m args below meth c X hr
  unfold fX0_cardAt at hf
  have hf := zlet_n (x := h) rfl hf
  show zG p l e { frames := 0, cells := 0, slots := 0, locals := 0 } s m args below meth c (MQ below (zQ D cA base h hE (some (.int rE))) args s 0 0 (zA base)) 2 D cA base h 0 [(0, .int x0), (1, .int x1)] [] h
  refine g_iload_n X 0 dX0_cardAt_0 rfl ?_
  refine g_iconst X (v := 4) dX0_cardAt_1 (by decide) ?_
  refine g_iload_n X 1 dX0_cardAt_2 rfl ?_
  refine g_imul X dX0_cardAt_3 ?_
  refine g_ishr X dX0_cardAt_4 ?_
  refine g_bipush X (v := 15) dX0_cardAt_5 (by decide) ?_
  refine g_iand X dX0_cardAt_7 ?_
  obtain ⟨rfl, rfl⟩ := zsm hf
  exact g_iret X hr dX0_cardAt_8

set_option maxHeartbeats 4000000 in
set_option maxRecDepth 100000 in
theorem sX0_isHand {l : Launch} {D : va_G} {cA : Nat → ClassId} {base : Nat} {sA : Nat → Nat} {r0 : Nat} {r1 : Nat} {h hE : Zh} {rE : Int32} (hf : fX0_isHand r0 r1 h = some (rE, hE)) : zC l yX0_isHand cX0_isHand 5 (some .boolean) 0 0 D cA base sA [.ref (base + r0), .ref (base + r1)] h (some (.int rE)) hE := by
  refine g_entry RX0 (by decide) rfl (Nat.le_of_ble_eq_true rfl) ?_
  intro p e s m args below meth c X hr
  unfold fX0_isHand at hf
  have hf := zlet_n (x := h) rfl hf
  show zG p l e { frames := 0, cells := 0, slots := 0, locals := 0 } s m args below meth c (MQ below (zQ D cA base h hE (some (.int rE))) args s 0 0 (zA base)) 5 D cA base h 0 [(0, .ref (base + r0)), (1, .ref (base + r1))] [] h
  refine g_iconst X (v := 0) dX0_isHand_0 (by decide) ?_
  refine g_istore_n X [(2, .int ((0 : Int32))), (0, .ref (base + r0)), (1, .ref (base + r1))] dX0_isHand_1 (by decide) rfl ?_
  refine g_iconst X (v := 0) dX0_isHand_2 (by decide) ?_
  refine g_istore_n X [(3, .int ((0 : Int32))), (2, .int ((0 : Int32))), (0, .ref (base + r0)), (1, .ref (base + r1))] dX0_isHand_3 (by decide) rfl ?_
  refine g_sub [2, 3, 1, 0] rfl ?_
  obtain ⟨qq, hlp, hf⟩ := zbd hf
  refine lp_snd (body := (fun q : Int32 × Int32 × Zh => bX0_isHand_4 h r0 r1 q.1 q.2.1 q.2.2)) (P := (fun q : Int32 × Int32 × Zh => zG p l e { frames := 0, cells := 0, slots := 0, locals := 0 } s m args below meth c (MQ below (zQ D cA base h hE (some (.int rE))) args s 0 0 (zA base)) 5 D cA base h 4 [(0, .ref (base + r0)), (1, .ref (base + r1)), (2, .int q.1), (3, .int q.2.1)] [] q.2.2)) (E := (fun (en : Nat) (q : Int32 × Int32 × Zh) => if en = 1 then zG p l e { frames := 0, cells := 0, slots := 0, locals := 0 } s m args below meth c (MQ below (zQ D cA base h hE (some (.int rE))) args s 0 0 (zA base)) 5 D cA base h 28 [] [] q.2.2 else if en = 2 then zG p l e { frames := 0, cells := 0, slots := 0, locals := 0 } s m args below meth c (MQ below (zQ D cA base h hE (some (.int rE))) args s 0 0 (zA base)) 5 D cA base h 54 [] [] q.2.2 else zG p l e { frames := 0, cells := 0, slots := 0, locals := 0 } s m args below meth c (MQ below (zQ D cA base h hE (some (.int rE))) args s 0 0 (zA base)) 5 D cA base h 69 [] [] q.2.2)) ?_ zB ((0 : Int32), ((0 : Int32), h)) qq.1 qq.2 hlp ?_
  · intro q e_4 q_4 hf hc0 hc1
    obtain ⟨x2_4, x3_4, h_4⟩ := q
    have hf : bX0_isHand_4 h r0 r1 x2_4 x3_4 h_4 = some (e_4, q_4) := hf
    unfold bX0_isHand_4 at hf
    show zG p l e { frames := 0, cells := 0, slots := 0, locals := 0 } s m args below meth c (MQ below (zQ D cA base h hE (some (.int rE))) args s 0 0 (zA base)) 5 D cA base h 4 [(0, .ref (base + r0)), (1, .ref (base + r1)), (2, .int x2_4), (3, .int x3_4)] [] h_4
    refine g_iload_n X 3 dX0_isHand_4 rfl ?_
    refine g_iconst X (v := 5) dX0_isHand_5 (by decide) ?_
    refine g_icmp_ge X 69 dX0_isHand_6 (by decide) (fun hq => ?_) (fun hq => ?_)
    · have hf := zpos hq hf
      cases hf
      have hc1 := hc1 (by decide)
      exact g_sub [] rfl (zun_n (by decide) (zun_n (by decide) hc1))
    · have hf := zneg hq hf
      refine g_aload_n X 1 dX0_isHand_9 rfl ?_
      refine g_iload_n X 3 dX0_isHand_10 rfl ?_
      obtain ⟨hk1, hf⟩ := zite hf
      obtain ⟨hi2, hf⟩ := zite hf
      refine g_iald X hk1 hi2 dX0_isHand_11 ?_
      refine g_topi (fun y3 ey3 => ?_)
      have hf := zlet_n ey3 hf
      refine g_istore X [(4, .int y3), (0, .ref (base + r0)), (1, .ref (base + r1)), (2, .int x2_4), (3, .int x3_4)] dX0_isHand_12 (by decide) rfl ?_
      refine g_iload_n X 4 dX0_isHand_14 rfl ?_
      refine g_aload_n X 1 dX0_isHand_15 rfl ?_
      obtain ⟨hk4, hf⟩ := zite hf
      refine g_get X zf0 hk4 3 (by decide) w_f_RX0_27 rfl rfl dX0_isHand_16 ?_
      refine g_icmp_lt X 30 dX0_isHand_19 (by decide) (fun hq => ?_) (fun hq => ?_)
      · have hf := zpos hq hf
        refine g_iload X 0 dX0_isHand_30 rfl ?_
        refine g_if_lt X 54 dX0_isHand_32 (by decide) (fun hq => ?_) (fun hq => ?_)
        · have hf := zpos hq hf
          cases hf
          have hc1 := hc1 (by decide)
          exact g_sub [] rfl (zun_p rfl (zun_n (by decide) hc1))
        · have hf := zneg hq hf
          refine g_iload X 0 dX0_isHand_35 rfl ?_
          refine g_aload_n X 1 dX0_isHand_37 rfl ?_
          refine g_get X zf0 hk4 0 (by decide) w_f_RX0_18 rfl rfl dX0_isHand_38 ?_
          refine g_icmp_ge X 54 dX0_isHand_41 (by decide) (fun hq => ?_) (fun hq => ?_)
          · have hf := zpos hq hf
            cases hf
            have hc1 := hc1 (by decide)
            exact g_sub [] rfl (zun_p rfl (zun_n (by decide) hc1))
          · have hf := zneg hq hf
            refine g_iload_n X 3 dX0_isHand_44 rfl ?_
            refine g_iload X 0 dX0_isHand_45 rfl ?_
            refine g_ishr X dX0_isHand_47 ?_
            refine g_iconst X (v := 1) dX0_isHand_48 (by decide) ?_
            refine g_iand X dX0_isHand_49 ?_
            refine g_iconst X (v := 1) dX0_isHand_50 (by decide) ?_
            refine g_icmp_ne X 56 dX0_isHand_51 (by decide) (fun hq => ?_) (fun hq => ?_)
            · have hf := zneg hq hf
              refine g_iload_n X 3 dX0_isHand_56 rfl ?_
              refine g_iconst X (v := 1) dX0_isHand_57 (by decide) ?_
              refine g_iload X 0 dX0_isHand_58 rfl ?_
              refine g_ishl X dX0_isHand_60 ?_
              refine g_ior X dX0_isHand_61 ?_
              refine g_topi (fun y5 ey5 => ?_)
              have hf := zlet_n ey5 hf
              refine g_istore_n X [(2, .int y5), (4, .int y3), (0, .ref (base + r0)), (1, .ref (base + r1)), (3, .int x3_4)] dX0_isHand_62 (by decide) rfl ?_
              obtain ⟨y6, ey6⟩ : ∃ y : Int32, y = x3_4 + (1 : Int32) := ⟨_, rfl⟩
              have hf := zlet_n ey6 hf
              refine g_iinc X (j := 4) [(3, .int y6), (2, .int y5), (4, .int y3), (0, .ref (base + r0)), (1, .ref (base + r1))] dX0_isHand_63 rfl (by rw [ey6]; rfl) (by decide) rfl ?_
              refine g_goto X 4 dX0_isHand_66 (by decide) ?_
              cases hf
              exact g_sub [3, 4, 1, 0] rfl (hc0 rfl)
            · have hf := zpos hq hf
              cases hf
              have hc1 := hc1 (by decide)
              exact g_sub [] rfl (zun_p rfl (zun_n (by decide) hc1))
      · have hf := zneg hq hf
        refine g_iload X 0 dX0_isHand_22 rfl ?_
        refine g_iconst X (v := -1) dX0_isHand_24 (by decide) ?_
        refine g_icmp_eq X 63 dX0_isHand_25 (by decide) (fun hq => ?_) (fun hq => ?_)
        · have hf := zpos hq hf
          obtain ⟨y7, ey7⟩ : ∃ y : Int32, y = x3_4 + (1 : Int32) := ⟨_, rfl⟩
          have hf := zlet_n ey7 hf
          refine g_iinc X (j := 4) [(3, .int y7), (4, .int y3), (0, .ref (base + r0)), (1, .ref (base + r1)), (2, .int x2_4)] dX0_isHand_63 rfl (by rw [ey7]; rfl) (by decide) rfl ?_
          refine g_goto X 4 dX0_isHand_66 (by decide) ?_
          cases hf
          exact g_sub [2, 3, 4, 0] rfl (hc0 rfl)
        · have hf := zneg hq hf
          cases hf
          have hc1 := hc1 (by decide)
          exact g_sub [] rfl (zun_p rfl hc1)
  · obtain ⟨ee, x2_k4, x3_k4, h_k4⟩ := qq
    have hf : kX0_isHand_4 h ee x2_k4 x3_k4 h_k4 = some (rE, hE) := hf
    unfold kX0_isHand_4 at hf
    by_cases hee0 : ee = 1
    · have hf := zpos hee0 hf
      refine zifp hee0 ?_
      show zG p l e { frames := 0, cells := 0, slots := 0, locals := 0 } s m args below meth c (MQ below (zQ D cA base h hE (some (.int rE))) args s 0 0 (zA base)) 5 D cA base h 28 [] [] h_k4
      refine g_iconst X (v := 0) dX0_isHand_28 (by decide) ?_
      obtain ⟨rfl, rfl⟩ := zsm hf
      exact g_zret X (Or.inl rfl) hr dX0_isHand_29
    have hf := zneg hee0 hf
    refine zifn hee0 ?_
    by_cases hee1 : ee = 2
    · have hf := zpos hee1 hf
      refine zifp hee1 ?_
      show zG p l e { frames := 0, cells := 0, slots := 0, locals := 0 } s m args below meth c (MQ below (zQ D cA base h hE (some (.int rE))) args s 0 0 (zA base)) 5 D cA base h 54 [] [] h_k4
      refine g_iconst X (v := 0) dX0_isHand_54 (by decide) ?_
      obtain ⟨rfl, rfl⟩ := zsm hf
      exact g_zret X (Or.inl rfl) hr dX0_isHand_55
    have hf := zneg hee1 hf
    refine zifn hee1 ?_
    show zG p l e { frames := 0, cells := 0, slots := 0, locals := 0 } s m args below meth c (MQ below (zQ D cA base h hE (some (.int rE))) args s 0 0 (zA base)) 5 D cA base h 69 [] [] h_k4
    refine g_iconst X (v := 1) dX0_isHand_69 (by decide) ?_
    obtain ⟨rfl, rfl⟩ := zsm hf
    exact g_zret X (Or.inr rfl) hr dX0_isHand_70

set_option maxHeartbeats 4000000 in
set_option maxRecDepth 100000 in
theorem sJ6_bitCount_0f7a4 {l : Launch} {D : va_G} {cA : Nat → ClassId} {base : Nat} {sA : Nat → Nat} {x0 : Int32} {h hE : Zh} {rE : Int32} (hf : fJ6_bitCount_0f7a4 x0 h = some (rE, hE)) : zC l yJ6_bitCount_0f7a4 cJ6_bitCount_0f7a4 1 (some .int) 0 0 D cA base sA [.int x0] h (some (.int rE)) hE := by
  refine g_entry RJ6 (by decide) rfl (Nat.le_of_ble_eq_true rfl) ?_
  intro p e s m args below meth c X hr
  unfold fJ6_bitCount_0f7a4 at hf
  have hf := zlet_n (x := h) rfl hf
  show zG p l e { frames := 0, cells := 0, slots := 0, locals := 0 } s m args below meth c (MQ below (zQ D cA base h hE (some (.int rE))) args s 0 0 (zA base)) 1 D cA base h 0 [(0, .int x0)] [] h
  refine g_iload_n X 0 dJ6_bitCount_0f7a4_0 rfl ?_
  refine g_iload_n X 0 dJ6_bitCount_0f7a4_1 rfl ?_
  refine g_iconst X (v := 1) dJ6_bitCount_0f7a4_2 (by decide) ?_
  refine g_iushr X dJ6_bitCount_0f7a4_3 ?_
  refine g_ldcw X w_c_RJ6_265 dJ6_bitCount_0f7a4_4 ?_
  refine g_iand X dJ6_bitCount_0f7a4_7 ?_
  refine g_isub X dJ6_bitCount_0f7a4_8 ?_
  refine g_topi (fun y1 ey1 => ?_)
  have hf := zlet_n ey1 hf
  refine g_istore_n X [(0, .int y1)] dJ6_bitCount_0f7a4_9 (by decide) rfl ?_
  refine g_iload_n X 0 dJ6_bitCount_0f7a4_10 rfl ?_
  refine g_ldcw X w_c_RJ6_266 dJ6_bitCount_0f7a4_11 ?_
  refine g_iand X dJ6_bitCount_0f7a4_14 ?_
  refine g_iload_n X 0 dJ6_bitCount_0f7a4_15 rfl ?_
  refine g_iconst X (v := 2) dJ6_bitCount_0f7a4_16 (by decide) ?_
  refine g_iushr X dJ6_bitCount_0f7a4_17 ?_
  refine g_ldcw X w_c_RJ6_266 dJ6_bitCount_0f7a4_18 ?_
  refine g_iand X dJ6_bitCount_0f7a4_21 ?_
  refine g_iadd X dJ6_bitCount_0f7a4_22 ?_
  refine g_topi (fun y2 ey2 => ?_)
  have hf := zlet_n ey2 hf
  refine g_istore_n X [(0, .int y2)] dJ6_bitCount_0f7a4_23 (by decide) rfl ?_
  refine g_iload_n X 0 dJ6_bitCount_0f7a4_24 rfl ?_
  refine g_iload_n X 0 dJ6_bitCount_0f7a4_25 rfl ?_
  refine g_iconst X (v := 4) dJ6_bitCount_0f7a4_26 (by decide) ?_
  refine g_iushr X dJ6_bitCount_0f7a4_27 ?_
  refine g_iadd X dJ6_bitCount_0f7a4_28 ?_
  refine g_ldcw X w_c_RJ6_267 dJ6_bitCount_0f7a4_29 ?_
  refine g_iand X dJ6_bitCount_0f7a4_32 ?_
  refine g_topi (fun y3 ey3 => ?_)
  have hf := zlet_n ey3 hf
  refine g_istore_n X [(0, .int y3)] dJ6_bitCount_0f7a4_33 (by decide) rfl ?_
  refine g_iload_n X 0 dJ6_bitCount_0f7a4_34 rfl ?_
  refine g_iload_n X 0 dJ6_bitCount_0f7a4_35 rfl ?_
  refine g_bipush X (v := 8) dJ6_bitCount_0f7a4_36 (by decide) ?_
  refine g_iushr X dJ6_bitCount_0f7a4_38 ?_
  refine g_iadd X dJ6_bitCount_0f7a4_39 ?_
  refine g_topi (fun y4 ey4 => ?_)
  have hf := zlet_n ey4 hf
  refine g_istore_n X [(0, .int y4)] dJ6_bitCount_0f7a4_40 (by decide) rfl ?_
  refine g_iload_n X 0 dJ6_bitCount_0f7a4_41 rfl ?_
  refine g_iload_n X 0 dJ6_bitCount_0f7a4_42 rfl ?_
  refine g_bipush X (v := 16) dJ6_bitCount_0f7a4_43 (by decide) ?_
  refine g_iushr X dJ6_bitCount_0f7a4_45 ?_
  refine g_iadd X dJ6_bitCount_0f7a4_46 ?_
  refine g_topi (fun y5 ey5 => ?_)
  have hf := zlet_n ey5 hf
  refine g_istore_n X [(0, .int y5)] dJ6_bitCount_0f7a4_47 (by decide) rfl ?_
  refine g_iload_n X 0 dJ6_bitCount_0f7a4_48 rfl ?_
  refine g_bipush X (v := 63) dJ6_bitCount_0f7a4_49 (by decide) ?_
  refine g_iand X dJ6_bitCount_0f7a4_51 ?_
  obtain ⟨rfl, rfl⟩ := zsm hf
  exact g_iret X hr dJ6_bitCount_0f7a4_52

set_option maxHeartbeats 4000000 in
set_option maxRecDepth 100000 in
theorem sX0_rowNumber {l : Launch} {D : va_G} {cA : Nat → ClassId} {base : Nat} {sA : Nat → Nat} {r0 : Nat} {r1 : Nat} {x2 : Int32} {h hE : Zh} {rE : Int32} (hf : fX0_rowNumber r0 r1 x2 h = some (rE, hE)) : zC l yX0_rowNumber cX0_rowNumber 7 (some .int) 1 20 D cA base sA [.ref (base + r0), .ref (base + r1), .int x2] h (some (.int rE)) hE := by
  refine g_entry RX0 (by decide) rfl (Nat.le_of_ble_eq_true rfl) ?_
  intro p e s m args below meth c X hr
  unfold fX0_rowNumber at hf
  have hf := zlet_n (x := h) rfl hf
  show zG p l e { frames := 1, cells := 0, slots := 0, locals := 20 } s m args below meth c (MQ below (zQ D cA base h hE (some (.int rE))) args s 0 0 (zA base)) 7 D cA base h 0 [(0, .ref (base + r0)), (1, .ref (base + r1)), (2, .int x2)] [] h
  refine g_iconst X (v := 0) dX0_rowNumber_0 (by decide) ?_
  refine g_istore_n X [(3, .int ((0 : Int32))), (0, .ref (base + r0)), (1, .ref (base + r1)), (2, .int x2)] dX0_rowNumber_1 (by decide) rfl ?_
  refine g_iconst X (v := 0) dX0_rowNumber_2 (by decide) ?_
  refine g_istore X [(4, .int ((0 : Int32))), (3, .int ((0 : Int32))), (0, .ref (base + r0)), (1, .ref (base + r1)), (2, .int x2)] dX0_rowNumber_3 (by decide) rfl ?_
  refine g_iconst X (v := 0) dX0_rowNumber_5 (by decide) ?_
  refine g_istore X [(5, .int ((0 : Int32))), (4, .int ((0 : Int32))), (3, .int ((0 : Int32))), (0, .ref (base + r0)), (1, .ref (base + r1)), (2, .int x2)] dX0_rowNumber_6 (by decide) rfl ?_
  refine g_sub [3, 4, 5, 2, 1, 0] rfl ?_
  obtain ⟨qq, hlp, hf⟩ := zbd hf
  refine lp_snd (body := (fun q : Int32 × Int32 × Int32 × Zh => bX0_rowNumber_8 h r0 r1 x2 q.1 q.2.1 q.2.2.1 q.2.2.2)) (P := (fun q : Int32 × Int32 × Int32 × Zh => zG p l e { frames := 1, cells := 0, slots := 0, locals := 20 } s m args below meth c (MQ below (zQ D cA base h hE (some (.int rE))) args s 0 0 (zA base)) 7 D cA base h 8 [(0, .ref (base + r0)), (1, .ref (base + r1)), (2, .int x2), (3, .int q.1), (4, .int q.2.1), (5, .int q.2.2.1)] [] q.2.2.2)) (E := (fun (en : Nat) (q : Int32 × Int32 × Int32 × Zh) => zG p l e { frames := 1, cells := 0, slots := 0, locals := 20 } s m args below meth c (MQ below (zQ D cA base h hE (some (.int rE))) args s 0 0 (zA base)) 7 D cA base h 61 [(3, .int q.1)] [] q.2.2.2)) ?_ zB ((0 : Int32), ((0 : Int32), ((0 : Int32), h))) qq.1 qq.2 hlp ?_
  · intro q e_8 q_8 hf hc0 hc1
    obtain ⟨x3_8, x4_8, x5_8, h_8⟩ := q
    have hf : bX0_rowNumber_8 h r0 r1 x2 x3_8 x4_8 x5_8 h_8 = some (e_8, q_8) := hf
    unfold bX0_rowNumber_8 at hf
    show zG p l e { frames := 1, cells := 0, slots := 0, locals := 20 } s m args below meth c (MQ below (zQ D cA base h hE (some (.int rE))) args s 0 0 (zA base)) 7 D cA base h 8 [(0, .ref (base + r0)), (1, .ref (base + r1)), (2, .int x2), (3, .int x3_8), (4, .int x4_8), (5, .int x5_8)] [] h_8
    refine g_iload X 5 dX0_rowNumber_8 rfl ?_
    refine g_iload_n X 2 dX0_rowNumber_10 rfl ?_
    refine g_icmp_ge X 61 dX0_rowNumber_11 (by decide) (fun hq => ?_) (fun hq => ?_)
    · have hf := zpos hq hf
      cases hf
      have hc1 := hc1 (by decide)
      exact g_sub [3] rfl hc1
    · have hf := zneg hq hf
      refine g_aload_n X 1 dX0_rowNumber_14 rfl ?_
      refine g_iload X 5 dX0_rowNumber_15 rfl ?_
      obtain ⟨hk1, hf⟩ := zite hf
      obtain ⟨hi2, hf⟩ := zite hf
      refine g_iald X hk1 hi2 dX0_rowNumber_17 ?_
      refine g_topi (fun y3 ey3 => ?_)
      have hf := zlet_n ey3 hf
      refine g_istore X [(6, .int y3), (0, .ref (base + r0)), (1, .ref (base + r1)), (2, .int x2), (3, .int x3_8), (4, .int x4_8), (5, .int x5_8)] dX0_rowNumber_18 (by decide) rfl ?_
      refine g_iload_n X 4 dX0_rowNumber_20 rfl ?_
      refine g_aload_n X 1 dX0_rowNumber_21 rfl ?_
      obtain ⟨hk4, hf⟩ := zite hf
      refine g_get X zf0 hk4 0 (by decide) w_f_RX0_18 rfl rfl dX0_rowNumber_22 ?_
      refine g_iload X 6 dX0_rowNumber_25 rfl ?_
      refine g_isub X dX0_rowNumber_27 ?_
      refine g_imul X dX0_rowNumber_28 ?_
      refine g_iload X 0 dX0_rowNumber_29 rfl ?_
      refine g_iadd X dX0_rowNumber_31 ?_
      refine g_iload X 5 dX0_rowNumber_32 rfl ?_
      refine g_iconst X (v := 1) dX0_rowNumber_34 (by decide) ?_
      refine g_iload X 0 dX0_rowNumber_35 rfl ?_
      refine g_ishl X dX0_rowNumber_37 ?_
      refine g_iconst X (v := 1) dX0_rowNumber_38 (by decide) ?_
      refine g_isub X dX0_rowNumber_39 ?_
      refine g_iand X dX0_rowNumber_40 ?_
      obtain ⟨v6, h5, hch5, hf⟩ := zc2_e hf
      refine g_callS X 1 (sJ6_bitCount_0f7a4 hch5) ysJ6_bitCount_0f7a4 w_ml_RX0_75 w_static_J6_bitCount_0f7a4 w_ini_RJ6 w_code_J6_bitCount_0f7a4 (by decide) rfl (st := [.int ((x3_8 * ((zI h_8 r0 0) - x5_8)) + y3)]) rfl rfl (Nat.le_of_ble_eq_true rfl) dX0_rowNumber_41 ?_
      refine g_isub X dX0_rowNumber_44 ?_
      refine g_topi (fun y7 ey7 => ?_)
      have hf := zlet_n ey7 hf
      refine g_istore_n X [(3, .int y7), (6, .int y3), (0, .ref (base + r0)), (1, .ref (base + r1)), (2, .int x2), (4, .int x4_8), (5, .int x5_8)] dX0_rowNumber_45 (by decide) rfl ?_
      refine g_iload X 5 dX0_rowNumber_46 rfl ?_
      refine g_iconst X (v := 1) dX0_rowNumber_48 (by decide) ?_
      refine g_iload X 1 dX0_rowNumber_49 rfl ?_
      refine g_ishl X dX0_rowNumber_51 ?_
      refine g_ior X dX0_rowNumber_52 ?_
      refine g_topi (fun y8 ey8 => ?_)
      have hf := zlet_n ey8 hf
      refine g_istore X [(4, .int y8), (3, .int y7), (6, .int y3), (0, .ref (base + r0)), (1, .ref (base + r1)), (2, .int x2), (5, .int x5_8)] dX0_rowNumber_53 (by decide) rfl ?_
      obtain ⟨y9, ey9⟩ : ∃ y : Int32, y = x5_8 + (1 : Int32) := ⟨_, rfl⟩
      have hf := zlet_n ey9 hf
      refine g_iinc X (j := 6) [(5, .int y9), (4, .int y8), (3, .int y7), (6, .int y3), (0, .ref (base + r0)), (1, .ref (base + r1)), (2, .int x2)] dX0_rowNumber_55 rfl (by rw [ey9]; rfl) (by decide) rfl ?_
      refine g_goto X 8 dX0_rowNumber_58 (by decide) ?_
      cases hf
      exact g_sub [4, 5, 6, 2, 1, 0] rfl (hc0 rfl)
  · obtain ⟨ee, x3_k8, x4_k8, x5_k8, h_k8⟩ := qq
    have hf : kX0_rowNumber_8 h ee x3_k8 x4_k8 x5_k8 h_k8 = some (rE, hE) := hf
    unfold kX0_rowNumber_8 at hf
    show zG p l e { frames := 1, cells := 0, slots := 0, locals := 20 } s m args below meth c (MQ below (zQ D cA base h hE (some (.int rE))) args s 0 0 (zA base)) 7 D cA base h 61 [(3, .int x3_k8)] [] h_k8
    refine g_iload_n X 0 dX0_rowNumber_61 rfl ?_
    obtain ⟨rfl, rfl⟩ := zsm hf
    exact g_iret X hr dX0_rowNumber_62

set_option maxHeartbeats 4000000 in
set_option maxRecDepth 100000 in
theorem sX0_sort {l : Launch} {D : va_G} {cA : Nat → ClassId} {base : Nat} {sA : Nat → Nat} {r0 : Nat} {x1 : Int32} {h hE : Zh} (hf : fX0_sort r0 x1 h = some hE) : zC l yX0_sort cX0_sort 5 none 0 0 D cA base sA [.ref (base + r0), .int x1] h none hE := by
  refine g_entry RX0 (by decide) rfl (Nat.le_of_ble_eq_true rfl) ?_
  intro p e s m args below meth c X hr
  unfold fX0_sort at hf
  have hf := zlet_n (x := h) rfl hf
  show zG p l e { frames := 0, cells := 0, slots := 0, locals := 0 } s m args below meth c (MQ below (zQ D cA base h hE none) args s 0 0 (zA base)) 5 D cA base h 0 [(0, .ref (base + r0)), (1, .int x1)] [] h
  refine g_iconst X (v := 1) dX0_sort_0 (by decide) ?_
  refine g_istore_n X [(2, .int ((1 : Int32))), (0, .ref (base + r0)), (1, .int x1)] dX0_sort_1 (by decide) rfl ?_
  refine g_sub [1, 2, 0] rfl ?_
  obtain ⟨qq, hlp, hf⟩ := zbd hf
  refine lp_snd (body := (fun q : Int32 × Zh => bX0_sort_2 h r0 x1 q.1 q.2)) (P := (fun q : Int32 × Zh => zG p l e { frames := 0, cells := 0, slots := 0, locals := 0 } s m args below meth c (MQ below (zQ D cA base h hE none) args s 0 0 (zA base)) 5 D cA base h 2 [(0, .ref (base + r0)), (1, .int x1), (2, .int q.1)] [] q.2)) (E := (fun (en : Nat) (q : Int32 × Zh) => zG p l e { frames := 0, cells := 0, slots := 0, locals := 0 } s m args below meth c (MQ below (zQ D cA base h hE none) args s 0 0 (zA base)) 5 D cA base h 56 [] [] q.2)) ?_ zB ((1 : Int32), h) qq.1 qq.2 hlp ?_
  · intro q e_2 q_2 hf hc0 hc1
    obtain ⟨x2_2, h_2⟩ := q
    have hf : bX0_sort_2 h r0 x1 x2_2 h_2 = some (e_2, q_2) := hf
    unfold bX0_sort_2 at hf
    show zG p l e { frames := 0, cells := 0, slots := 0, locals := 0 } s m args below meth c (MQ below (zQ D cA base h hE none) args s 0 0 (zA base)) 5 D cA base h 2 [(0, .ref (base + r0)), (1, .int x1), (2, .int x2_2)] [] h_2
    refine g_iload_n X 2 dX0_sort_2 rfl ?_
    refine g_iload_n X 1 dX0_sort_3 rfl ?_
    refine g_icmp_ge X 56 dX0_sort_4 (by decide) (fun hq => ?_) (fun hq => ?_)
    · have hf := zpos hq hf
      cases hf
      have hc1 := hc1 (by decide)
      exact g_sub [] rfl hc1
    · have hf := zneg hq hf
      refine g_aload_n X 0 dX0_sort_7 rfl ?_
      refine g_iload_n X 2 dX0_sort_8 rfl ?_
      obtain ⟨hk1, hf⟩ := zite hf
      obtain ⟨hi2, hf⟩ := zite hf
      refine g_iald X hk1 hi2 dX0_sort_9 ?_
      refine g_topi (fun y3 ey3 => ?_)
      have hf := zlet_n ey3 hf
      refine g_istore_n X [(3, .int y3), (0, .ref (base + r0)), (1, .int x1), (2, .int x2_2)] dX0_sort_10 (by decide) rfl ?_
      refine g_iload_n X 3 dX0_sort_11 rfl ?_
      refine g_istore X [(4, .int x2_2), (3, .int y3), (0, .ref (base + r0)), (1, .int x1), (2, .int x2_2)] dX0_sort_12 (by decide) rfl ?_
      refine g_sub [2, 3, 4, 1, 0] rfl ?_
      obtain ⟨qq, hlp, hf⟩ := zbd hf
      refine lp_snd (body := (fun q : Int32 × Zh => bX0_sort_14 h r0 y3 q.1 q.2)) (P := (fun q : Int32 × Zh => zG p l e { frames := 0, cells := 0, slots := 0, locals := 0 } s m args below meth c (MQ below (zQ D cA base h hE none) args s 0 0 (zA base)) 5 D cA base h 14 [(0, .ref (base + r0)), (1, .int x1), (2, .int x2_2), (3, .int y3), (4, .int q.1)] [] q.2)) (E := (fun (en : Nat) (q : Int32 × Zh) => zG p l e { frames := 0, cells := 0, slots := 0, locals := 0 } s m args below meth c (MQ below (zQ D cA base h hE none) args s 0 0 (zA base)) 5 D cA base h 45 [(0, .ref (base + r0)), (1, .int x1), (2, .int x2_2), (3, .int y3), (4, .int q.1)] [] q.2)) ?_ zB (x2_2, h_2) qq.1 qq.2 hlp ?_
      · intro q e_14 q_14 hf hc0 hc1
        obtain ⟨x4_14, h_14⟩ := q
        have hf : bX0_sort_14 h r0 y3 x4_14 h_14 = some (e_14, q_14) := hf
        unfold bX0_sort_14 at hf
        show zG p l e { frames := 0, cells := 0, slots := 0, locals := 0 } s m args below meth c (MQ below (zQ D cA base h hE none) args s 0 0 (zA base)) 5 D cA base h 14 [(0, .ref (base + r0)), (1, .int x1), (2, .int x2_2), (3, .int y3), (4, .int x4_14)] [] h_14
        refine g_iload X 4 dX0_sort_14 rfl ?_
        refine g_if_le X 45 dX0_sort_16 (by decide) (fun hq => ?_) (fun hq => ?_)
        · have hf := zpos hq hf
          cases hf
          have hc1 := hc1 (by decide)
          exact g_sub [0, 1, 2, 3, 4] rfl hc1
        · have hf := zneg hq hf
          refine g_aload_n X 0 dX0_sort_19 rfl ?_
          refine g_iload X 4 dX0_sort_20 rfl ?_
          refine g_iconst X (v := 1) dX0_sort_22 (by decide) ?_
          refine g_isub X dX0_sort_23 ?_
          obtain ⟨hi4, hf⟩ := zite hf
          refine g_iald X hk1 hi4 dX0_sort_24 ?_
          refine g_iload_n X 3 dX0_sort_25 rfl ?_
          refine g_icmp_le X 45 dX0_sort_26 (by decide) (fun hq => ?_) (fun hq => ?_)
          · have hf := zpos hq hf
            cases hf
            have hc1 := hc1 (by decide)
            exact g_sub [0, 1, 2, 3, 4] rfl hc1
          · have hf := zneg hq hf
            refine g_aload_n X 0 dX0_sort_29 rfl ?_
            refine g_iload X 4 dX0_sort_30 rfl ?_
            refine g_aload_n X 0 dX0_sort_32 rfl ?_
            refine g_iload X 4 dX0_sort_33 rfl ?_
            refine g_iconst X (v := 1) dX0_sort_35 (by decide) ?_
            refine g_isub X dX0_sort_36 ?_
            obtain ⟨hi5, hf⟩ := zite hf
            refine g_iald X hk1 hi5 dX0_sort_37 ?_
            obtain ⟨hi6, hf⟩ := zite hf
            refine g_iast X hk1 hi6 dX0_sort_38 ?_
            refine g_hp (fun h7 eh7 => ?_)
            have hf := zlet_n eh7 hf
            obtain ⟨y8, ey8⟩ : ∃ y : Int32, y = x4_14 + (-1 : Int32) := ⟨_, rfl⟩
            have hf := zlet_n ey8 hf
            refine g_iinc X (j := 4) [(4, .int y8), (0, .ref (base + r0)), (1, .int x1), (2, .int x2_2), (3, .int y3)] dX0_sort_39 rfl (by rw [ey8]; rfl) (by decide) rfl ?_
            refine g_goto X 14 dX0_sort_42 (by decide) ?_
            cases hf
            exact g_sub [1, 2, 3, 4, 0] rfl (hc0 rfl)
      · obtain ⟨ee, x4_k14, h_k14⟩ := qq
        have hf : kX0_sort_14 h r0 x1 x2_2 y3 ee x4_k14 h_k14 = some (e_2, q_2) := hf
        unfold kX0_sort_14 at hf
        show zG p l e { frames := 0, cells := 0, slots := 0, locals := 0 } s m args below meth c (MQ below (zQ D cA base h hE none) args s 0 0 (zA base)) 5 D cA base h 45 [(0, .ref (base + r0)), (1, .int x1), (2, .int x2_2), (3, .int y3), (4, .int x4_k14)] [] h_k14
        refine g_aload_n X 0 dX0_sort_45 rfl ?_
        refine g_iload X 4 dX0_sort_46 rfl ?_
        refine g_iload_n X 3 dX0_sort_48 rfl ?_
        obtain ⟨hi9, hf⟩ := zite hf
        refine g_iast X hk1 hi9 dX0_sort_49 ?_
        refine g_hp (fun h10 eh10 => ?_)
        have hf := zlet_n eh10 hf
        obtain ⟨y11, ey11⟩ : ∃ y : Int32, y = x2_2 + (1 : Int32) := ⟨_, rfl⟩
        have hf := zlet_n ey11 hf
        refine g_iinc X (j := 2) [(2, .int y11), (0, .ref (base + r0)), (1, .int x1), (3, .int y3), (4, .int x4_k14)] dX0_sort_50 rfl (by rw [ey11]; rfl) (by decide) rfl ?_
        refine g_goto X 2 dX0_sort_53 (by decide) ?_
        cases hf
        exact g_sub [1, 2, 0] rfl (hc0 rfl)
  · obtain ⟨ee, x2_k2, h_k2⟩ := qq
    have hf : kX0_sort_2 h ee x2_k2 h_k2 = some hE := hf
    unfold kX0_sort_2 at hf
    show zG p l e { frames := 0, cells := 0, slots := 0, locals := 0 } s m args below meth c (MQ below (zQ D cA base h hE none) args s 0 0 (zA base)) 5 D cA base h 56 [] [] h_k2
    cases hf
    exact g_vret X hr dX0_sort_56

