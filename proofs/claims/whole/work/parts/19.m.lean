/-! FifthCardModel goesOn -/
def bX12_goesOn_9 (g : Zh) (r0 : Nat)  (h : Zh) : Option (Nat × Zh) :=
  zc2 (fX12_byteAt r0 (zI h r0 8) h) fun v3 h2 => if v3 = ((32 : Int32)) then zlet (zsI h2 r0 8 ((zI h2 r0 8) + ((1 : Int32)))) fun h4 => some (0, h4) else some (1, h2)
def jX12_goesOn_261 (g : Zh) (r0 : Nat) (x1 : Int32) (h : Zh) : Option Zh :=
  zlet (zsI h r0 9 ((4 : Int32))) fun h14 => zlet (zsI h14 r0 11 x1) fun h15 => zlet (zsI h15 r0 8 ((zI h15 r0 8) + ((1 : Int32)))) fun h16 => some h16
def bX12_goesOn_178 (g : Zh) (r0 : Nat) (x2 : Int32) (h : Zh) : Option (Nat × Int32 × Zh) :=
  zc2 (fX12_byteAt r0 (zI h r0 8) h) fun v19 h18 => zc2 (fX12_isDigit v19 h18) fun v21 h20 => if v21 = 0 then some (1, (x2, h20)) else if ((3 : Int32)) ≤ x2 then zlet (x2 + (1 : Int32)) fun y22 => zlet (zsI h20 r0 8 ((zI h20 r0 8) + ((1 : Int32)))) fun h23 => some (0, (y22, h23)) else zc2 (fX12_byteAt r0 (zI h20 r0 8) h20) fun v25 h24 => zlet (zsI h24 r0 12 (((((10 : Int32)) * (zI h20 r0 12)) + v25) - ((48 : Int32)))) fun h26 => zlet (x2 + (1 : Int32)) fun y27 => zlet (zsI h26 r0 8 ((zI h26 r0 8) + ((1 : Int32)))) fun h28 => some (0, (y27, h28))
def kX12_goesOn_178 (g : Zh) (r0 : Nat) (e : Nat) (x2 : Int32) (h : Zh) : Option Zh :=
  if ((3 : Int32)) < x2 then some h else zlet (zsI h r0 9 ((3 : Int32))) fun h29 => some h29
def bX12_goesOn_89 (g : Zh) (r0 : Nat) (x2 : Int32) (h : Zh) : Option (Nat × Int32 × Zh) :=
  zc2 (fX12_byteAt r0 (zI h r0 8) h) fun v32 h31 => zc2 (fX12_isLetter v32 h31) fun v34 h33 => if v34 = 0 then some (1, (x2, h33)) else if ((8 : Int32)) ≤ x2 then zlet (x2 + (1 : Int32)) fun y35 => zlet (zsI h33 r0 8 ((zI h33 r0 8) + ((1 : Int32)))) fun h36 => some (0, (y35, h36)) else zc2 (fX12_byteAt r0 (zI h33 r0 8) h33) fun v38 h37 => zlet (zsJ h37 r0 15 ((((32 : Int64)) * (zJ h33 r0 15)) + (((v38 - ((97 : Int32))) + ((1 : Int32))).toInt64))) fun h39 => zlet (x2 + (1 : Int32)) fun y40 => zlet (zsI h39 r0 8 ((zI h39 r0 8) + ((1 : Int32)))) fun h41 => some (0, (y40, h41))
def kX12_goesOn_89 (g : Zh) (r0 : Nat) (e : Nat) (x2 : Int32) (h : Zh) : Option Zh :=
  if ((8 : Int32)) < x2 then some h else zlet (zsI h r0 9 ((2 : Int32))) fun h42 => some h42
def kX12_goesOn_9 (g : Zh) (r0 : Nat) (e : Nat)  (h : Zh) : Option Zh :=
  zlet (zsI h r0 10 (zI h r0 8)) fun h5 => zlet (zsI h5 r0 9 ((0 : Int32))) fun h6 => zlet (zsI h6 r0 11 ((0 : Int32))) fun h7 => zc2 (fX12_byteAt r0 (zI h7 r0 8) h7) fun v9 h8 => if v9 = ((-1 : Int32)) then zlet (zsI h8 r0 9 ((1 : Int32))) fun h43 => some h43 else zc2 (fX12_isLetter v9 h8) fun v11 h10 => if v11 = 0 then zc2 (fX12_isDigit v9 h10) fun v13 h12 => if v13 = 0 then if v9 = ((59 : Int32)) then jX12_goesOn_261 g r0 v9 h12 else if v9 = ((44 : Int32)) then jX12_goesOn_261 g r0 v9 h12 else some h12 else zlet (zsI h12 r0 12 ((0 : Int32))) fun h17 => (lp (fun q : Int32 × Zh => bX12_goesOn_178 g r0 q.1 q.2) zB ((0 : Int32), h17)).bind fun q => kX12_goesOn_178 g r0 q.1 q.2.1 q.2.2 else zlet (zsJ h10 r0 15 ((0 : Int64))) fun h30 => (lp (fun q : Int32 × Zh => bX12_goesOn_89 g r0 q.1 q.2) zB ((0 : Int32), h30)).bind fun q => kX12_goesOn_89 g r0 q.1 q.2.1 q.2.2
def fX12_goesOn (r0 : Nat) (h : Zh) : Option Zh := zlet h fun g =>
  if zK g r0 = 12 then if (zI h r0 9) = ((5 : Int32)) then some h else (lp (fun q : Zh => bX12_goesOn_9 g r0 q) zB h).bind fun q => kX12_goesOn_9 g r0 q.1 q.2 else none
/-! FifthCardModel flaw -/
def fX12_flaw (r0 : Nat) (x1 : Int32) (h : Zh) : Option Zh := zlet h fun g =>
  if zK g r0 = 12 then if (zI h r0 9) = ((5 : Int32)) then some h else zlet (zsI h r0 13 x1) fun h2 => zlet (zsI h2 r0 14 (zI h2 r0 10)) fun h3 => zlet (zsI h3 r0 9 ((5 : Int32))) fun h4 => some h4 else none
/-! FifthCardModel eatsSign -/
def jX12_eatsSign_21 (g : Zh) (r0 : Nat) (t0 : Int32) (h : Zh) : Option (Int32 × Zh) :=
  if t0 = 0 then if t0 = 0 ∨ t0 = 1 then some (t0, h) else none else (fX12_goesOn r0 h).bind fun h3 => if t0 = 0 ∨ t0 = 1 then some (t0, h3) else none
def jX12_eatsSign_20 (g : Zh) (r0 : Nat) (h : Zh) : Option (Int32 × Zh) :=
  jX12_eatsSign_21 g r0 ((0 : Int32)) h
def fX12_eatsSign (r0 : Nat) (x1 : Int32) (h : Zh) : Option (Int32 × Zh) := zlet h fun g =>
  if zK g r0 = 12 then if (zI h r0 9) = ((4 : Int32)) then if (zI h r0 11) = x1 then jX12_eatsSign_21 g r0 ((1 : Int32)) h else jX12_eatsSign_20 g r0 h else jX12_eatsSign_20 g r0 h else none
/-! FifthCardModel needsSign -/
def fX12_needsSign (r0 : Nat) (x1 : Int32) (h : Zh) : Option Zh := zlet h fun g =>
  if zK g r0 = 12 then if (zI h r0 9) = ((4 : Int32)) then if (zI h r0 11) = x1 then (fX12_goesOn r0 h).bind fun h4 => some h4 else (fX12_flaw r0 ((1 : Int32)) h).bind fun h5 => (fX12_goesOn r0 h5).bind fun h6 => some h6 else (fX12_flaw r0 ((1 : Int32)) h).bind fun h2 => (fX12_goesOn r0 h2).bind fun h3 => some h3 else none
/-! FifthCardModel bounded -/
def jX12_bounded_33 (g : Zh) (r0 : Nat) (x1 : Int32) (h : Zh) : Option (Int32 × Zh) :=
  if (zI h r0 9) = ((5 : Int32)) then some (x1, h) else some (zI h r0 12, h)
def fX12_bounded (r0 : Nat) (x1 : Int32) (x2 : Int32) (h : Zh) : Option (Int32 × Zh) := zlet h fun g =>
  if zK g r0 = 12 then if (zI h r0 9) = ((3 : Int32)) then zc2 (fX12_in (zI h r0 12) x1 x2 h) fun v3 h2 => if v3 = 0 then (fX12_flaw r0 ((4 : Int32)) h2).bind fun h4 => jX12_bounded_33 g r0 x1 h4 else jX12_bounded_33 g r0 x1 h2 else (fX12_flaw r0 ((1 : Int32)) h).bind fun h5 => jX12_bounded_33 g r0 x1 h5 else none
/-! FifthCardModel begins -/
def jX12_begins_10 (g : Zh) (r0 : Nat) (h : Zh) : Option Zh :=
  if zK g r0 = 12 then (zR h r0 4).bind fun r_2 => if zK g r_2 = 11 then if (zI h r_2 0) = 0 then (fX12_flaw r0 ((6 : Int32)) h).bind fun h5 => (fX12_goesOn r0 h5).bind fun h6 => some h6 else (fX12_goesOn r0 h).bind fun h4 => some h4 else none else none
def fX12_begins (r0 : Nat) (x1 : Int32) (x2 : Int32) (h : Zh) : Option Zh := zlet h fun g =>
  if x1 = x2 then if zK g r0 = 12 then (fX12_flaw r0 ((5 : Int32)) h).bind fun h8 => jX12_begins_10 g r0 h8 else none else jX12_begins_10 g r0 h
/-! FifthCardModel readUnlike -/
def jX12_readUnlike_58 (g : Zh) (r0 : Nat) (r1 : Nat) (x2 : Int32) (x3 : Int32) (x4 : Int32) (x5 : Int32) (x6 : Int32) (x7 : Int32) (h : Zh) : Option (Nat × Int32 × Int32 × Zh) :=
  (fX12_goesOn r0 h).bind fun h4 => zlet (x5 ||| (((1 : Int32)) <<< (x7 &&& 31))) fun y5 => if zK g r1 = 100 then if zin (x2 + x6) (zL g r1) then zlet (zsI h4 r1 (x2 + x6).toNatClampNeg x7) fun h8 => zlet (x6 + (1 : Int32)) fun y9 => some (0, (y5, (y9, h8))) else none else none
def jX12_readUnlike_31 (g : Zh) (r0 : Nat) (r1 : Nat) (x2 : Int32) (x3 : Int32) (x4 : Int32) (x5 : Int32) (x6 : Int32) (h : Zh) : Option (Nat × Int32 × Int32 × Zh) :=
  zc2 (fX12_bounded r0 ((0 : Int32)) (x4 - ((1 : Int32))) h) fun v3 h2 => if ((x5 >>> (v3 &&& 31)) &&& ((1 : Int32))) = ((1 : Int32)) then (fX12_flaw r0 ((3 : Int32)) h2).bind fun h10 => jX12_readUnlike_58 g r0 r1 x2 x3 x4 x5 x6 v3 h10 else jX12_readUnlike_58 g r0 r1 x2 x3 x4 x5 x6 v3 h2
def bX12_readUnlike_6 (g : Zh) (r0 : Nat) (r1 : Nat) (x2 : Int32) (x3 : Int32) (x4 : Int32) (x5 : Int32) (x6 : Int32) (h : Zh) : Option (Nat × Int32 × Int32 × Zh) :=
  if x3 ≤ x6 then some (1, (x5, (x6, h))) else if zK g r0 = 12 then if (zI h r0 9) = ((5 : Int32)) then some (1, (x5, (x6, h))) else if x6 ≤ 0 then jX12_readUnlike_31 g r0 r1 x2 x3 x4 x5 x6 h else (fX12_needsSign r0 ((44 : Int32)) h).bind fun h11 => jX12_readUnlike_31 g r0 r1 x2 x3 x4 x5 x6 h11 else none
def kX12_readUnlike_6 (g : Zh)  (e : Nat) (x5 : Int32) (x6 : Int32) (h : Zh) : Option Zh :=
  some h
def fX12_readUnlike (r0 : Nat) (r1 : Nat) (x2 : Int32) (x3 : Int32) (x4 : Int32) (h : Zh) : Option Zh := zlet h fun g =>
  (lp (fun q : Int32 × Int32 × Zh => bX12_readUnlike_6 g r0 r1 x2 x3 x4 q.1 q.2.1 q.2.2) zB ((0 : Int32), ((0 : Int32), h))).bind fun q => kX12_readUnlike_6 g q.1 q.2.1 q.2.2.1 q.2.2.2
/-! FifthCardModel readPlaces -/
def jX12_readPlaces_45 (g : Zh) (r0 : Nat) (x1 : Int32) (x3 : Int32) (h : Zh) : Option (Nat × Int32 × Int32 × Zh) :=
  (fX12_goesOn r0 h).bind fun h6 => zlet (x1 ||| (((1 : Int32)) <<< (x3 &&& 31))) fun y7 => zc2 (fX12_eatsSign r0 ((44 : Int32)) h6) fun v9 h8 => some (0, (y7, (v9, h8)))
def bX12_readPlaces_4 (g : Zh) (r0 : Nat) (x1 : Int32) (x2 : Int32) (h : Zh) : Option (Nat × Int32 × Int32 × Zh) :=
  if x2 = 0 then some (1, (x1, (x2, h))) else if zK g r0 = 12 then if (zI h r0 9) = ((5 : Int32)) then some (1, (x1, (x2, h))) else (zR h r0 4).bind fun r_2 => if zK g r_2 = 11 then zc2 (fX12_bounded r0 ((0 : Int32)) ((zI h r_2 4) - ((1 : Int32))) h) fun v5 h4 => if ((x1 >>> (v5 &&& 31)) &&& ((1 : Int32))) = ((1 : Int32)) then (fX12_flaw r0 ((3 : Int32)) h4).bind fun h10 => jX12_readPlaces_45 g r0 x1 v5 h10 else jX12_readPlaces_45 g r0 x1 v5 h4 else none else none
def kX12_readPlaces_4 (g : Zh)  (e : Nat) (x1 : Int32) (x2 : Int32) (h : Zh) : Option (Int32 × Zh) :=
  some (x1, h)
def fX12_readPlaces (r0 : Nat) (h : Zh) : Option (Int32 × Zh) := zlet h fun g =>
  (lp (fun q : Int32 × Int32 × Zh => bX12_readPlaces_4 g r0 q.1 q.2.1 q.2.2) zB ((0 : Int32), ((1 : Int32), h))).bind fun q => kX12_readPlaces_4 g q.1 q.2.1 q.2.2.1 q.2.2.2
/-! FifthCardModel feed -/
def jX12_feed_76 (g : Zh) (r0 : Nat) (x1 : Int32) (x2 : Int32) (x3 : Int32) (x4 : Int32) (x5 : Int32) (x6 : Int32) (t0 : Int32) (h : Zh) : Option (Nat × Int32 × Zh) :=
  (zR h r0 5).bind fun r_3 => if ¬ ((4 : Int32)) = 0 then if zK g r_3 = 101 then if zin (zI h r0 6) (zL g r_3) then zlet (zsI h r_3 (zI h r0 6).toNatClampNeg ((t0 >>> ((((24 : Int32)) - (((8 : Int32)) * (zrem x6 ((4 : Int32))))) &&& 31)).toInt8.toInt32).toInt8.toInt32) fun h7 => zlet (zsI h7 r0 6 ((zI h7 r0 6) + ((1 : Int32)))) fun h8 => zlet (x6 + (1 : Int32)) fun y9 => some (0, (y9, h8)) else none else none else none
def bX12_feed_23 (g : Zh) (r0 : Nat) (x1 : Int32) (x2 : Int32) (x3 : Int32) (x4 : Int32) (x5 : Int32) (x6 : Int32) (h : Zh) : Option (Nat × Int32 × Zh) :=
  if ((20 : Int32)) ≤ x6 then some (1, (x6, h)) else if ((4 : Int32)) ≤ x6 then if ((8 : Int32)) ≤ x6 then if ((12 : Int32)) ≤ x6 then if ((16 : Int32)) ≤ x6 then jX12_feed_76 g r0 x1 x2 x3 x4 x5 x6 x5 h else jX12_feed_76 g r0 x1 x2 x3 x4 x5 x6 x4 h else jX12_feed_76 g r0 x1 x2 x3 x4 x5 x6 x3 h else jX12_feed_76 g r0 x1 x2 x3 x4 x5 x6 x2 h else jX12_feed_76 g r0 x1 x2 x3 x4 x5 x6 x1 h
def kX12_feed_23 (g : Zh) (r0 : Nat) (e : Nat) (x6 : Int32) (h : Zh) : Option (Int32 × Zh) :=
  some (zI h r0 6, h)
def fX12_feed (r0 : Nat) (x1 : Int32) (x2 : Int32) (x3 : Int32) (x4 : Int32) (x5 : Int32) (h : Zh) : Option (Int32 × Zh) := zlet h fun g =>
  if zK g r0 = 12 then zlet (zsI h r0 0 ((0 : Int32))) fun h2 => if ((zI h2 r0 6) + ((20 : Int32))) ≤ ((900 : Int32)) then (lp (fun q : Int32 × Zh => bX12_feed_23 g r0 x1 x2 x3 x4 x5 q.1 q.2) zB ((0 : Int32), h2)).bind fun q => kX12_feed_23 g r0 q.1 q.2.1 q.2.2 else some ((-1 : Int32), h2) else none
/-! FifthCardModel fault -/
def fX12_fault (r0 : Nat) (h : Zh) : Option (Int32 × Zh) := zlet h fun g =>
  if zK g r0 = 12 then zlet (zsI h r0 0 ((0 : Int32))) fun h2 => some (zI h2 r0 13, h2) else none
/-! FifthCardModel where -/
def fX12_where (r0 : Nat) (h : Zh) : Option (Int32 × Zh) := zlet h fun g =>
  if zK g r0 = 12 then zlet (zsI h r0 0 ((0 : Int32))) fun h2 => some (zI h2 r0 2, h2) else none
theorem dX12_goesOn_0 : decode cX12_goesOn 0 = .ok (.aload_n 0, 1) := by decide +kernel
theorem dX12_goesOn_1 : decode cX12_goesOn 1 = .ok (.getfield 118, 3) := by decide +kernel
theorem dX12_goesOn_4 : decode cX12_goesOn 4 = .ok (.iconst 5, 1) := by decide +kernel
theorem dX12_goesOn_5 : decode cX12_goesOn 5 = .ok (.if_icmp .ne 4, 3) := by decide +kernel
theorem dX12_goesOn_8 : decode cX12_goesOn 8 = .ok (.return_, 1) := by decide +kernel
theorem dX12_goesOn_9 : decode cX12_goesOn 9 = .ok (.aload_n 0, 1) := by decide +kernel
theorem dX12_goesOn_10 : decode cX12_goesOn 10 = .ok (.aload_n 0, 1) := by decide +kernel
theorem dX12_goesOn_11 : decode cX12_goesOn 11 = .ok (.getfield 121, 3) := by decide +kernel
theorem dX12_goesOn_14 : decode cX12_goesOn 14 = .ok (.invokevirtual 124, 3) := by decide +kernel
theorem dX12_goesOn_17 : decode cX12_goesOn 17 = .ok (.bipush 32, 2) := by decide +kernel
theorem dX12_goesOn_19 : decode cX12_goesOn 19 = .ok (.if_icmp .ne 16, 3) := by decide +kernel
theorem dX12_goesOn_22 : decode cX12_goesOn 22 = .ok (.aload_n 0, 1) := by decide +kernel
theorem dX12_goesOn_23 : decode cX12_goesOn 23 = .ok (.dup, 1) := by decide +kernel
theorem dX12_goesOn_24 : decode cX12_goesOn 24 = .ok (.getfield 121, 3) := by decide +kernel
theorem dX12_goesOn_27 : decode cX12_goesOn 27 = .ok (.iconst 1, 1) := by decide +kernel
theorem dX12_goesOn_28 : decode cX12_goesOn 28 = .ok (.iadd, 1) := by decide +kernel
theorem dX12_goesOn_29 : decode cX12_goesOn 29 = .ok (.putfield 121, 3) := by decide +kernel
theorem dX12_goesOn_32 : decode cX12_goesOn 32 = .ok (.goto (-23), 3) := by decide +kernel
theorem dX12_goesOn_35 : decode cX12_goesOn 35 = .ok (.aload_n 0, 1) := by decide +kernel
theorem dX12_goesOn_36 : decode cX12_goesOn 36 = .ok (.aload_n 0, 1) := by decide +kernel
theorem dX12_goesOn_37 : decode cX12_goesOn 37 = .ok (.getfield 121, 3) := by decide +kernel
theorem dX12_goesOn_40 : decode cX12_goesOn 40 = .ok (.putfield 127, 3) := by decide +kernel
theorem dX12_goesOn_43 : decode cX12_goesOn 43 = .ok (.aload_n 0, 1) := by decide +kernel
theorem dX12_goesOn_44 : decode cX12_goesOn 44 = .ok (.iconst 0, 1) := by decide +kernel
theorem dX12_goesOn_45 : decode cX12_goesOn 45 = .ok (.putfield 118, 3) := by decide +kernel
theorem dX12_goesOn_48 : decode cX12_goesOn 48 = .ok (.aload_n 0, 1) := by decide +kernel
theorem dX12_goesOn_49 : decode cX12_goesOn 49 = .ok (.iconst 0, 1) := by decide +kernel
theorem dX12_goesOn_50 : decode cX12_goesOn 50 = .ok (.putfield 130, 3) := by decide +kernel
theorem dX12_goesOn_53 : decode cX12_goesOn 53 = .ok (.aload_n 0, 1) := by decide +kernel
theorem dX12_goesOn_54 : decode cX12_goesOn 54 = .ok (.aload_n 0, 1) := by decide +kernel
theorem dX12_goesOn_55 : decode cX12_goesOn 55 = .ok (.getfield 121, 3) := by decide +kernel
theorem dX12_goesOn_58 : decode cX12_goesOn 58 = .ok (.invokevirtual 124, 3) := by decide +kernel
theorem dX12_goesOn_61 : decode cX12_goesOn 61 = .ok (.istore_n 1, 1) := by decide +kernel
theorem dX12_goesOn_62 : decode cX12_goesOn 62 = .ok (.iconst 0, 1) := by decide +kernel
theorem dX12_goesOn_63 : decode cX12_goesOn 63 = .ok (.istore_n 2, 1) := by decide +kernel
theorem dX12_goesOn_64 : decode cX12_goesOn 64 = .ok (.iload_n 1, 1) := by decide +kernel
theorem dX12_goesOn_65 : decode cX12_goesOn 65 = .ok (.iconst (-1), 1) := by decide +kernel
theorem dX12_goesOn_66 : decode cX12_goesOn 66 = .ok (.if_icmp .ne 11, 3) := by decide +kernel
theorem dX12_goesOn_69 : decode cX12_goesOn 69 = .ok (.aload_n 0, 1) := by decide +kernel
theorem dX12_goesOn_70 : decode cX12_goesOn 70 = .ok (.iconst 1, 1) := by decide +kernel
theorem dX12_goesOn_71 : decode cX12_goesOn 71 = .ok (.putfield 118, 3) := by decide +kernel
theorem dX12_goesOn_74 : decode cX12_goesOn 74 = .ok (.goto 207, 3) := by decide +kernel
theorem dX12_goesOn_77 : decode cX12_goesOn 77 = .ok (.iload_n 1, 1) := by decide +kernel
theorem dX12_goesOn_78 : decode cX12_goesOn 78 = .ok (.invokestatic 133, 3) := by decide +kernel
theorem dX12_goesOn_81 : decode cX12_goesOn 81 = .ok (.ifCond .eq 85, 3) := by decide +kernel
theorem dX12_goesOn_84 : decode cX12_goesOn 84 = .ok (.aload_n 0, 1) := by decide +kernel
theorem dX12_goesOn_85 : decode cX12_goesOn 85 = .ok (.lconst 0, 1) := by decide +kernel
theorem dX12_goesOn_86 : decode cX12_goesOn 86 = .ok (.putfield 137, 3) := by decide +kernel
theorem dX12_goesOn_89 : decode cX12_goesOn 89 = .ok (.aload_n 0, 1) := by decide +kernel
theorem dX12_goesOn_90 : decode cX12_goesOn 90 = .ok (.aload_n 0, 1) := by decide +kernel
theorem dX12_goesOn_91 : decode cX12_goesOn 91 = .ok (.getfield 121, 3) := by decide +kernel
theorem dX12_goesOn_94 : decode cX12_goesOn 94 = .ok (.invokevirtual 124, 3) := by decide +kernel
theorem dX12_goesOn_97 : decode cX12_goesOn 97 = .ok (.invokestatic 133, 3) := by decide +kernel
theorem dX12_goesOn_100 : decode cX12_goesOn 100 = .ok (.ifCond .eq 52, 3) := by decide +kernel
theorem dX12_goesOn_103 : decode cX12_goesOn 103 = .ok (.iload_n 2, 1) := by decide +kernel
theorem dX12_goesOn_104 : decode cX12_goesOn 104 = .ok (.bipush 8, 2) := by decide +kernel
theorem dX12_goesOn_106 : decode cX12_goesOn 106 = .ok (.if_icmp .ge 30, 3) := by decide +kernel
theorem dX12_goesOn_109 : decode cX12_goesOn 109 = .ok (.aload_n 0, 1) := by decide +kernel
theorem dX12_goesOn_110 : decode cX12_goesOn 110 = .ok (.ldc2_w 112, 3) := by decide +kernel
theorem dX12_goesOn_113 : decode cX12_goesOn 113 = .ok (.aload_n 0, 1) := by decide +kernel
theorem dX12_goesOn_114 : decode cX12_goesOn 114 = .ok (.getfield 137, 3) := by decide +kernel
theorem dX12_goesOn_117 : decode cX12_goesOn 117 = .ok (.lmul, 1) := by decide +kernel
theorem dX12_goesOn_118 : decode cX12_goesOn 118 = .ok (.aload_n 0, 1) := by decide +kernel
theorem dX12_goesOn_119 : decode cX12_goesOn 119 = .ok (.aload_n 0, 1) := by decide +kernel
theorem dX12_goesOn_120 : decode cX12_goesOn 120 = .ok (.getfield 121, 3) := by decide +kernel
theorem dX12_goesOn_123 : decode cX12_goesOn 123 = .ok (.invokevirtual 124, 3) := by decide +kernel
theorem dX12_goesOn_126 : decode cX12_goesOn 126 = .ok (.bipush 97, 2) := by decide +kernel
theorem dX12_goesOn_128 : decode cX12_goesOn 128 = .ok (.isub, 1) := by decide +kernel
theorem dX12_goesOn_129 : decode cX12_goesOn 129 = .ok (.iconst 1, 1) := by decide +kernel
theorem dX12_goesOn_130 : decode cX12_goesOn 130 = .ok (.iadd, 1) := by decide +kernel
theorem dX12_goesOn_131 : decode cX12_goesOn 131 = .ok (.i2l, 1) := by decide +kernel
theorem dX12_goesOn_132 : decode cX12_goesOn 132 = .ok (.ladd, 1) := by decide +kernel
theorem dX12_goesOn_133 : decode cX12_goesOn 133 = .ok (.putfield 137, 3) := by decide +kernel
theorem dX12_goesOn_136 : decode cX12_goesOn 136 = .ok (.iinc 2 1, 3) := by decide +kernel
theorem dX12_goesOn_139 : decode cX12_goesOn 139 = .ok (.aload_n 0, 1) := by decide +kernel
theorem dX12_goesOn_140 : decode cX12_goesOn 140 = .ok (.dup, 1) := by decide +kernel
theorem dX12_goesOn_141 : decode cX12_goesOn 141 = .ok (.getfield 121, 3) := by decide +kernel
theorem dX12_goesOn_144 : decode cX12_goesOn 144 = .ok (.iconst 1, 1) := by decide +kernel
theorem dX12_goesOn_145 : decode cX12_goesOn 145 = .ok (.iadd, 1) := by decide +kernel
theorem dX12_goesOn_146 : decode cX12_goesOn 146 = .ok (.putfield 121, 3) := by decide +kernel
theorem dX12_goesOn_149 : decode cX12_goesOn 149 = .ok (.goto (-60), 3) := by decide +kernel
theorem dX12_goesOn_152 : decode cX12_goesOn 152 = .ok (.iload_n 2, 1) := by decide +kernel
theorem dX12_goesOn_153 : decode cX12_goesOn 153 = .ok (.bipush 8, 2) := by decide +kernel
theorem dX12_goesOn_155 : decode cX12_goesOn 155 = .ok (.if_icmp .gt 126, 3) := by decide +kernel
theorem dX12_goesOn_158 : decode cX12_goesOn 158 = .ok (.aload_n 0, 1) := by decide +kernel
theorem dX12_goesOn_159 : decode cX12_goesOn 159 = .ok (.iconst 2, 1) := by decide +kernel
theorem dX12_goesOn_160 : decode cX12_goesOn 160 = .ok (.putfield 118, 3) := by decide +kernel
theorem dX12_goesOn_163 : decode cX12_goesOn 163 = .ok (.goto 118, 3) := by decide +kernel
theorem dX12_goesOn_166 : decode cX12_goesOn 166 = .ok (.iload_n 1, 1) := by decide +kernel
theorem dX12_goesOn_167 : decode cX12_goesOn 167 = .ok (.invokestatic 141, 3) := by decide +kernel
theorem dX12_goesOn_170 : decode cX12_goesOn 170 = .ok (.ifCond .eq 79, 3) := by decide +kernel
theorem dX12_goesOn_173 : decode cX12_goesOn 173 = .ok (.aload_n 0, 1) := by decide +kernel
theorem dX12_goesOn_174 : decode cX12_goesOn 174 = .ok (.iconst 0, 1) := by decide +kernel
theorem dX12_goesOn_175 : decode cX12_goesOn 175 = .ok (.putfield 144, 3) := by decide +kernel
theorem dX12_goesOn_178 : decode cX12_goesOn 178 = .ok (.aload_n 0, 1) := by decide +kernel
theorem dX12_goesOn_179 : decode cX12_goesOn 179 = .ok (.aload_n 0, 1) := by decide +kernel
theorem dX12_goesOn_180 : decode cX12_goesOn 180 = .ok (.getfield 121, 3) := by decide +kernel
theorem dX12_goesOn_183 : decode cX12_goesOn 183 = .ok (.invokevirtual 124, 3) := by decide +kernel
theorem dX12_goesOn_186 : decode cX12_goesOn 186 = .ok (.invokestatic 141, 3) := by decide +kernel
theorem dX12_goesOn_189 : decode cX12_goesOn 189 = .ok (.ifCond .eq 47, 3) := by decide +kernel
theorem dX12_goesOn_192 : decode cX12_goesOn 192 = .ok (.iload_n 2, 1) := by decide +kernel
theorem dX12_goesOn_193 : decode cX12_goesOn 193 = .ok (.iconst 3, 1) := by decide +kernel
theorem dX12_goesOn_194 : decode cX12_goesOn 194 = .ok (.if_icmp .ge 26, 3) := by decide +kernel
theorem dX12_goesOn_197 : decode cX12_goesOn 197 = .ok (.aload_n 0, 1) := by decide +kernel
theorem dX12_goesOn_198 : decode cX12_goesOn 198 = .ok (.bipush 10, 2) := by decide +kernel
theorem dX12_goesOn_200 : decode cX12_goesOn 200 = .ok (.aload_n 0, 1) := by decide +kernel
theorem dX12_goesOn_201 : decode cX12_goesOn 201 = .ok (.getfield 144, 3) := by decide +kernel
theorem dX12_goesOn_204 : decode cX12_goesOn 204 = .ok (.imul, 1) := by decide +kernel
theorem dX12_goesOn_205 : decode cX12_goesOn 205 = .ok (.aload_n 0, 1) := by decide +kernel
theorem dX12_goesOn_206 : decode cX12_goesOn 206 = .ok (.aload_n 0, 1) := by decide +kernel
theorem dX12_goesOn_207 : decode cX12_goesOn 207 = .ok (.getfield 121, 3) := by decide +kernel
theorem dX12_goesOn_210 : decode cX12_goesOn 210 = .ok (.invokevirtual 124, 3) := by decide +kernel
theorem dX12_goesOn_213 : decode cX12_goesOn 213 = .ok (.iadd, 1) := by decide +kernel
theorem dX12_goesOn_214 : decode cX12_goesOn 214 = .ok (.bipush 48, 2) := by decide +kernel
theorem dX12_goesOn_216 : decode cX12_goesOn 216 = .ok (.isub, 1) := by decide +kernel
theorem dX12_goesOn_217 : decode cX12_goesOn 217 = .ok (.putfield 144, 3) := by decide +kernel
theorem dX12_goesOn_220 : decode cX12_goesOn 220 = .ok (.iinc 2 1, 3) := by decide +kernel
theorem dX12_goesOn_223 : decode cX12_goesOn 223 = .ok (.aload_n 0, 1) := by decide +kernel
theorem dX12_goesOn_224 : decode cX12_goesOn 224 = .ok (.dup, 1) := by decide +kernel
theorem dX12_goesOn_225 : decode cX12_goesOn 225 = .ok (.getfield 121, 3) := by decide +kernel
theorem dX12_goesOn_228 : decode cX12_goesOn 228 = .ok (.iconst 1, 1) := by decide +kernel
theorem dX12_goesOn_229 : decode cX12_goesOn 229 = .ok (.iadd, 1) := by decide +kernel
theorem dX12_goesOn_230 : decode cX12_goesOn 230 = .ok (.putfield 121, 3) := by decide +kernel
theorem dX12_goesOn_233 : decode cX12_goesOn 233 = .ok (.goto (-55), 3) := by decide +kernel
theorem dX12_goesOn_236 : decode cX12_goesOn 236 = .ok (.iload_n 2, 1) := by decide +kernel
theorem dX12_goesOn_237 : decode cX12_goesOn 237 = .ok (.iconst 3, 1) := by decide +kernel
theorem dX12_goesOn_238 : decode cX12_goesOn 238 = .ok (.if_icmp .gt 43, 3) := by decide +kernel
theorem dX12_goesOn_241 : decode cX12_goesOn 241 = .ok (.aload_n 0, 1) := by decide +kernel
theorem dX12_goesOn_242 : decode cX12_goesOn 242 = .ok (.iconst 3, 1) := by decide +kernel
theorem dX12_goesOn_243 : decode cX12_goesOn 243 = .ok (.putfield 118, 3) := by decide +kernel
theorem dX12_goesOn_246 : decode cX12_goesOn 246 = .ok (.goto 35, 3) := by decide +kernel
theorem dX12_goesOn_249 : decode cX12_goesOn 249 = .ok (.iload_n 1, 1) := by decide +kernel
theorem dX12_goesOn_250 : decode cX12_goesOn 250 = .ok (.bipush 59, 2) := by decide +kernel
theorem dX12_goesOn_252 : decode cX12_goesOn 252 = .ok (.if_icmp .eq 9, 3) := by decide +kernel
theorem dX12_goesOn_255 : decode cX12_goesOn 255 = .ok (.iload_n 1, 1) := by decide +kernel
theorem dX12_goesOn_256 : decode cX12_goesOn 256 = .ok (.bipush 44, 2) := by decide +kernel
theorem dX12_goesOn_258 : decode cX12_goesOn 258 = .ok (.if_icmp .ne 23, 3) := by decide +kernel
theorem dX12_goesOn_261 : decode cX12_goesOn 261 = .ok (.aload_n 0, 1) := by decide +kernel
theorem dX12_goesOn_262 : decode cX12_goesOn 262 = .ok (.iconst 4, 1) := by decide +kernel
theorem dX12_goesOn_263 : decode cX12_goesOn 263 = .ok (.putfield 118, 3) := by decide +kernel
theorem dX12_goesOn_266 : decode cX12_goesOn 266 = .ok (.aload_n 0, 1) := by decide +kernel
theorem dX12_goesOn_267 : decode cX12_goesOn 267 = .ok (.iload_n 1, 1) := by decide +kernel
theorem dX12_goesOn_268 : decode cX12_goesOn 268 = .ok (.putfield 130, 3) := by decide +kernel
theorem dX12_goesOn_271 : decode cX12_goesOn 271 = .ok (.aload_n 0, 1) := by decide +kernel
theorem dX12_goesOn_272 : decode cX12_goesOn 272 = .ok (.dup, 1) := by decide +kernel
theorem dX12_goesOn_273 : decode cX12_goesOn 273 = .ok (.getfield 121, 3) := by decide +kernel
theorem dX12_goesOn_276 : decode cX12_goesOn 276 = .ok (.iconst 1, 1) := by decide +kernel
theorem dX12_goesOn_277 : decode cX12_goesOn 277 = .ok (.iadd, 1) := by decide +kernel
theorem dX12_goesOn_278 : decode cX12_goesOn 278 = .ok (.putfield 121, 3) := by decide +kernel
theorem dX12_goesOn_281 : decode cX12_goesOn 281 = .ok (.return_, 1) := by decide +kernel
theorem dX12_flaw_0 : decode cX12_flaw 0 = .ok (.aload_n 0, 1) := by decide +kernel
theorem dX12_flaw_1 : decode cX12_flaw 1 = .ok (.getfield 118, 3) := by decide +kernel
theorem dX12_flaw_4 : decode cX12_flaw 4 = .ok (.iconst 5, 1) := by decide +kernel
theorem dX12_flaw_5 : decode cX12_flaw 5 = .ok (.if_icmp .ne 4, 3) := by decide +kernel
theorem dX12_flaw_8 : decode cX12_flaw 8 = .ok (.return_, 1) := by decide +kernel
theorem dX12_flaw_9 : decode cX12_flaw 9 = .ok (.aload_n 0, 1) := by decide +kernel
theorem dX12_flaw_10 : decode cX12_flaw 10 = .ok (.iload_n 1, 1) := by decide +kernel
theorem dX12_flaw_11 : decode cX12_flaw 11 = .ok (.putfield 147, 3) := by decide +kernel
theorem dX12_flaw_14 : decode cX12_flaw 14 = .ok (.aload_n 0, 1) := by decide +kernel
theorem dX12_flaw_15 : decode cX12_flaw 15 = .ok (.aload_n 0, 1) := by decide +kernel
theorem dX12_flaw_16 : decode cX12_flaw 16 = .ok (.getfield 127, 3) := by decide +kernel
theorem dX12_flaw_19 : decode cX12_flaw 19 = .ok (.putfield 150, 3) := by decide +kernel
theorem dX12_flaw_22 : decode cX12_flaw 22 = .ok (.aload_n 0, 1) := by decide +kernel
theorem dX12_flaw_23 : decode cX12_flaw 23 = .ok (.iconst 5, 1) := by decide +kernel
theorem dX12_flaw_24 : decode cX12_flaw 24 = .ok (.putfield 118, 3) := by decide +kernel
theorem dX12_flaw_27 : decode cX12_flaw 27 = .ok (.return_, 1) := by decide +kernel
theorem dX12_eatsSign_0 : decode cX12_eatsSign 0 = .ok (.aload_n 0, 1) := by decide +kernel
theorem dX12_eatsSign_1 : decode cX12_eatsSign 1 = .ok (.getfield 118, 3) := by decide +kernel
theorem dX12_eatsSign_4 : decode cX12_eatsSign 4 = .ok (.iconst 4, 1) := by decide +kernel
theorem dX12_eatsSign_5 : decode cX12_eatsSign 5 = .ok (.if_icmp .ne 15, 3) := by decide +kernel
theorem dX12_eatsSign_8 : decode cX12_eatsSign 8 = .ok (.aload_n 0, 1) := by decide +kernel
theorem dX12_eatsSign_9 : decode cX12_eatsSign 9 = .ok (.getfield 130, 3) := by decide +kernel
theorem dX12_eatsSign_12 : decode cX12_eatsSign 12 = .ok (.iload_n 1, 1) := by decide +kernel
theorem dX12_eatsSign_13 : decode cX12_eatsSign 13 = .ok (.if_icmp .ne 7, 3) := by decide +kernel
theorem dX12_eatsSign_16 : decode cX12_eatsSign 16 = .ok (.iconst 1, 1) := by decide +kernel
theorem dX12_eatsSign_17 : decode cX12_eatsSign 17 = .ok (.goto 4, 3) := by decide +kernel
theorem dX12_eatsSign_20 : decode cX12_eatsSign 20 = .ok (.iconst 0, 1) := by decide +kernel
theorem dX12_eatsSign_21 : decode cX12_eatsSign 21 = .ok (.istore_n 2, 1) := by decide +kernel
theorem dX12_eatsSign_22 : decode cX12_eatsSign 22 = .ok (.iload_n 2, 1) := by decide +kernel
theorem dX12_eatsSign_23 : decode cX12_eatsSign 23 = .ok (.ifCond .eq 7, 3) := by decide +kernel
theorem dX12_eatsSign_26 : decode cX12_eatsSign 26 = .ok (.aload_n 0, 1) := by decide +kernel
theorem dX12_eatsSign_27 : decode cX12_eatsSign 27 = .ok (.invokevirtual 161, 3) := by decide +kernel
theorem dX12_eatsSign_30 : decode cX12_eatsSign 30 = .ok (.iload_n 2, 1) := by decide +kernel
theorem dX12_eatsSign_31 : decode cX12_eatsSign 31 = .ok (.ireturn, 1) := by decide +kernel
theorem dX12_needsSign_0 : decode cX12_needsSign 0 = .ok (.aload_n 0, 1) := by decide +kernel
theorem dX12_needsSign_1 : decode cX12_needsSign 1 = .ok (.getfield 118, 3) := by decide +kernel
theorem dX12_needsSign_4 : decode cX12_needsSign 4 = .ok (.iconst 4, 1) := by decide +kernel
theorem dX12_needsSign_5 : decode cX12_needsSign 5 = .ok (.if_icmp .ne 11, 3) := by decide +kernel
theorem dX12_needsSign_8 : decode cX12_needsSign 8 = .ok (.aload_n 0, 1) := by decide +kernel
theorem dX12_needsSign_9 : decode cX12_needsSign 9 = .ok (.getfield 130, 3) := by decide +kernel
theorem dX12_needsSign_12 : decode cX12_needsSign 12 = .ok (.iload_n 1, 1) := by decide +kernel
theorem dX12_needsSign_13 : decode cX12_needsSign 13 = .ok (.if_icmp .eq 8, 3) := by decide +kernel
theorem dX12_needsSign_16 : decode cX12_needsSign 16 = .ok (.aload_n 0, 1) := by decide +kernel
theorem dX12_needsSign_17 : decode cX12_needsSign 17 = .ok (.iconst 1, 1) := by decide +kernel
theorem dX12_needsSign_18 : decode cX12_needsSign 18 = .ok (.invokevirtual 164, 3) := by decide +kernel
theorem dX12_needsSign_21 : decode cX12_needsSign 21 = .ok (.aload_n 0, 1) := by decide +kernel
theorem dX12_needsSign_22 : decode cX12_needsSign 22 = .ok (.invokevirtual 161, 3) := by decide +kernel
theorem dX12_needsSign_25 : decode cX12_needsSign 25 = .ok (.return_, 1) := by decide +kernel
theorem dX12_bounded_0 : decode cX12_bounded 0 = .ok (.aload_n 0, 1) := by decide +kernel
theorem dX12_bounded_1 : decode cX12_bounded 1 = .ok (.getfield 118, 3) := by decide +kernel
theorem dX12_bounded_4 : decode cX12_bounded 4 = .ok (.iconst 3, 1) := by decide +kernel
theorem dX12_bounded_5 : decode cX12_bounded 5 = .ok (.if_icmp .eq 11, 3) := by decide +kernel
theorem dX12_bounded_8 : decode cX12_bounded 8 = .ok (.aload_n 0, 1) := by decide +kernel
theorem dX12_bounded_9 : decode cX12_bounded 9 = .ok (.iconst 1, 1) := by decide +kernel
theorem dX12_bounded_10 : decode cX12_bounded 10 = .ok (.invokevirtual 164, 3) := by decide +kernel
theorem dX12_bounded_13 : decode cX12_bounded 13 = .ok (.goto 20, 3) := by decide +kernel
theorem dX12_bounded_16 : decode cX12_bounded 16 = .ok (.aload_n 0, 1) := by decide +kernel
theorem dX12_bounded_17 : decode cX12_bounded 17 = .ok (.getfield 144, 3) := by decide +kernel
theorem dX12_bounded_20 : decode cX12_bounded 20 = .ok (.iload_n 1, 1) := by decide +kernel
theorem dX12_bounded_21 : decode cX12_bounded 21 = .ok (.iload_n 2, 1) := by decide +kernel
theorem dX12_bounded_22 : decode cX12_bounded 22 = .ok (.invokestatic 168, 3) := by decide +kernel
theorem dX12_bounded_25 : decode cX12_bounded 25 = .ok (.ifCond .ne 8, 3) := by decide +kernel
theorem dX12_bounded_28 : decode cX12_bounded 28 = .ok (.aload_n 0, 1) := by decide +kernel
theorem dX12_bounded_29 : decode cX12_bounded 29 = .ok (.iconst 4, 1) := by decide +kernel
theorem dX12_bounded_30 : decode cX12_bounded 30 = .ok (.invokevirtual 164, 3) := by decide +kernel
theorem dX12_bounded_33 : decode cX12_bounded 33 = .ok (.aload_n 0, 1) := by decide +kernel
theorem dX12_bounded_34 : decode cX12_bounded 34 = .ok (.getfield 118, 3) := by decide +kernel
theorem dX12_bounded_37 : decode cX12_bounded 37 = .ok (.iconst 5, 1) := by decide +kernel
theorem dX12_bounded_38 : decode cX12_bounded 38 = .ok (.if_icmp .ne 7, 3) := by decide +kernel
theorem dX12_bounded_41 : decode cX12_bounded 41 = .ok (.iload_n 1, 1) := by decide +kernel
theorem dX12_bounded_42 : decode cX12_bounded 42 = .ok (.goto 7, 3) := by decide +kernel
theorem dX12_bounded_45 : decode cX12_bounded 45 = .ok (.aload_n 0, 1) := by decide +kernel
theorem dX12_bounded_46 : decode cX12_bounded 46 = .ok (.getfield 144, 3) := by decide +kernel
theorem dX12_bounded_49 : decode cX12_bounded 49 = .ok (.ireturn, 1) := by decide +kernel
theorem dX12_begins_0 : decode cX12_begins 0 = .ok (.iload_n 1, 1) := by decide +kernel
theorem dX12_begins_1 : decode cX12_begins 1 = .ok (.iload_n 2, 1) := by decide +kernel
theorem dX12_begins_2 : decode cX12_begins 2 = .ok (.if_icmp .ne 8, 3) := by decide +kernel
theorem dX12_begins_5 : decode cX12_begins 5 = .ok (.aload_n 0, 1) := by decide +kernel
theorem dX12_begins_6 : decode cX12_begins 6 = .ok (.iconst 5, 1) := by decide +kernel
theorem dX12_begins_7 : decode cX12_begins 7 = .ok (.invokevirtual 164, 3) := by decide +kernel
theorem dX12_begins_10 : decode cX12_begins 10 = .ok (.aload_n 0, 1) := by decide +kernel
theorem dX12_begins_11 : decode cX12_begins 11 = .ok (.getfield 190, 3) := by decide +kernel
theorem dX12_begins_14 : decode cX12_begins 14 = .ok (.getfield 194, 3) := by decide +kernel
theorem dX12_begins_17 : decode cX12_begins 17 = .ok (.ifCond .ne 9, 3) := by decide +kernel
theorem dX12_begins_20 : decode cX12_begins 20 = .ok (.aload_n 0, 1) := by decide +kernel
theorem dX12_begins_21 : decode cX12_begins 21 = .ok (.bipush 6, 2) := by decide +kernel
theorem dX12_begins_23 : decode cX12_begins 23 = .ok (.invokevirtual 164, 3) := by decide +kernel
theorem dX12_begins_26 : decode cX12_begins 26 = .ok (.aload_n 0, 1) := by decide +kernel
theorem dX12_begins_27 : decode cX12_begins 27 = .ok (.invokevirtual 161, 3) := by decide +kernel
theorem dX12_begins_30 : decode cX12_begins 30 = .ok (.return_, 1) := by decide +kernel
theorem dX12_readUnlike_0 : decode cX12_readUnlike 0 = .ok (.iconst 0, 1) := by decide +kernel
theorem dX12_readUnlike_1 : decode cX12_readUnlike 1 = .ok (.istore 5, 2) := by decide +kernel
theorem dX12_readUnlike_3 : decode cX12_readUnlike 3 = .ok (.iconst 0, 1) := by decide +kernel
theorem dX12_readUnlike_4 : decode cX12_readUnlike 4 = .ok (.istore 6, 2) := by decide +kernel
theorem dX12_readUnlike_6 : decode cX12_readUnlike 6 = .ok (.iload 6, 2) := by decide +kernel
theorem dX12_readUnlike_8 : decode cX12_readUnlike 8 = .ok (.iload_n 3, 1) := by decide +kernel
theorem dX12_readUnlike_9 : decode cX12_readUnlike 9 = .ok (.if_icmp .ge 76, 3) := by decide +kernel
theorem dX12_readUnlike_12 : decode cX12_readUnlike 12 = .ok (.aload_n 0, 1) := by decide +kernel
theorem dX12_readUnlike_13 : decode cX12_readUnlike 13 = .ok (.getfield 118, 3) := by decide +kernel
theorem dX12_readUnlike_16 : decode cX12_readUnlike 16 = .ok (.iconst 5, 1) := by decide +kernel
theorem dX12_readUnlike_17 : decode cX12_readUnlike 17 = .ok (.if_icmp .eq 68, 3) := by decide +kernel
theorem dX12_readUnlike_20 : decode cX12_readUnlike 20 = .ok (.iload 6, 2) := by decide +kernel
theorem dX12_readUnlike_22 : decode cX12_readUnlike 22 = .ok (.ifCond .le 9, 3) := by decide +kernel
theorem dX12_readUnlike_25 : decode cX12_readUnlike 25 = .ok (.aload_n 0, 1) := by decide +kernel
theorem dX12_readUnlike_26 : decode cX12_readUnlike 26 = .ok (.bipush 44, 2) := by decide +kernel
theorem dX12_readUnlike_28 : decode cX12_readUnlike 28 = .ok (.invokevirtual 302, 3) := by decide +kernel
theorem dX12_readUnlike_31 : decode cX12_readUnlike 31 = .ok (.aload_n 0, 1) := by decide +kernel
theorem dX12_readUnlike_32 : decode cX12_readUnlike 32 = .ok (.iconst 0, 1) := by decide +kernel
theorem dX12_readUnlike_33 : decode cX12_readUnlike 33 = .ok (.iload 4, 2) := by decide +kernel
theorem dX12_readUnlike_35 : decode cX12_readUnlike 35 = .ok (.iconst 1, 1) := by decide +kernel
theorem dX12_readUnlike_36 : decode cX12_readUnlike 36 = .ok (.isub, 1) := by decide +kernel
theorem dX12_readUnlike_37 : decode cX12_readUnlike 37 = .ok (.invokevirtual 176, 3) := by decide +kernel
theorem dX12_readUnlike_40 : decode cX12_readUnlike 40 = .ok (.istore 7, 2) := by decide +kernel
theorem dX12_readUnlike_42 : decode cX12_readUnlike 42 = .ok (.iload 5, 2) := by decide +kernel
theorem dX12_readUnlike_44 : decode cX12_readUnlike 44 = .ok (.iload 7, 2) := by decide +kernel
theorem dX12_readUnlike_46 : decode cX12_readUnlike 46 = .ok (.ishr, 1) := by decide +kernel
theorem dX12_readUnlike_47 : decode cX12_readUnlike 47 = .ok (.iconst 1, 1) := by decide +kernel
theorem dX12_readUnlike_48 : decode cX12_readUnlike 48 = .ok (.iand, 1) := by decide +kernel
theorem dX12_readUnlike_49 : decode cX12_readUnlike 49 = .ok (.iconst 1, 1) := by decide +kernel
theorem dX12_readUnlike_50 : decode cX12_readUnlike 50 = .ok (.if_icmp .ne 8, 3) := by decide +kernel
theorem dX12_readUnlike_53 : decode cX12_readUnlike 53 = .ok (.aload_n 0, 1) := by decide +kernel
theorem dX12_readUnlike_54 : decode cX12_readUnlike 54 = .ok (.iconst 3, 1) := by decide +kernel
theorem dX12_readUnlike_55 : decode cX12_readUnlike 55 = .ok (.invokevirtual 164, 3) := by decide +kernel
theorem dX12_readUnlike_58 : decode cX12_readUnlike 58 = .ok (.aload_n 0, 1) := by decide +kernel
theorem dX12_readUnlike_59 : decode cX12_readUnlike 59 = .ok (.invokevirtual 161, 3) := by decide +kernel
theorem dX12_readUnlike_62 : decode cX12_readUnlike 62 = .ok (.iload 5, 2) := by decide +kernel
theorem dX12_readUnlike_64 : decode cX12_readUnlike 64 = .ok (.iconst 1, 1) := by decide +kernel
theorem dX12_readUnlike_65 : decode cX12_readUnlike 65 = .ok (.iload 7, 2) := by decide +kernel
theorem dX12_readUnlike_67 : decode cX12_readUnlike 67 = .ok (.ishl, 1) := by decide +kernel
theorem dX12_readUnlike_68 : decode cX12_readUnlike 68 = .ok (.ior, 1) := by decide +kernel
theorem dX12_readUnlike_69 : decode cX12_readUnlike 69 = .ok (.istore 5, 2) := by decide +kernel
theorem dX12_readUnlike_71 : decode cX12_readUnlike 71 = .ok (.aload_n 1, 1) := by decide +kernel
theorem dX12_readUnlike_72 : decode cX12_readUnlike 72 = .ok (.iload_n 2, 1) := by decide +kernel
theorem dX12_readUnlike_73 : decode cX12_readUnlike 73 = .ok (.iload 6, 2) := by decide +kernel
theorem dX12_readUnlike_75 : decode cX12_readUnlike 75 = .ok (.iadd, 1) := by decide +kernel
theorem dX12_readUnlike_76 : decode cX12_readUnlike 76 = .ok (.iload 7, 2) := by decide +kernel
theorem dX12_readUnlike_78 : decode cX12_readUnlike 78 = .ok (.iastore, 1) := by decide +kernel
theorem dX12_readUnlike_79 : decode cX12_readUnlike 79 = .ok (.iinc 6 1, 3) := by decide +kernel
theorem dX12_readUnlike_82 : decode cX12_readUnlike 82 = .ok (.goto (-76), 3) := by decide +kernel
theorem dX12_readUnlike_85 : decode cX12_readUnlike 85 = .ok (.return_, 1) := by decide +kernel
theorem dX12_readPlaces_0 : decode cX12_readPlaces 0 = .ok (.iconst 0, 1) := by decide +kernel
theorem dX12_readPlaces_1 : decode cX12_readPlaces 1 = .ok (.istore_n 1, 1) := by decide +kernel
theorem dX12_readPlaces_2 : decode cX12_readPlaces 2 = .ok (.iconst 1, 1) := by decide +kernel
theorem dX12_readPlaces_3 : decode cX12_readPlaces 3 = .ok (.istore_n 2, 1) := by decide +kernel
theorem dX12_readPlaces_4 : decode cX12_readPlaces 4 = .ok (.iload_n 2, 1) := by decide +kernel
theorem dX12_readPlaces_5 : decode cX12_readPlaces 5 = .ok (.ifCond .eq 60, 3) := by decide +kernel
theorem dX12_readPlaces_8 : decode cX12_readPlaces 8 = .ok (.aload_n 0, 1) := by decide +kernel
theorem dX12_readPlaces_9 : decode cX12_readPlaces 9 = .ok (.getfield 118, 3) := by decide +kernel
theorem dX12_readPlaces_12 : decode cX12_readPlaces 12 = .ok (.iconst 5, 1) := by decide +kernel
theorem dX12_readPlaces_13 : decode cX12_readPlaces 13 = .ok (.if_icmp .eq 52, 3) := by decide +kernel
theorem dX12_readPlaces_16 : decode cX12_readPlaces 16 = .ok (.aload_n 0, 1) := by decide +kernel
theorem dX12_readPlaces_17 : decode cX12_readPlaces 17 = .ok (.iconst 0, 1) := by decide +kernel
theorem dX12_readPlaces_18 : decode cX12_readPlaces 18 = .ok (.aload_n 0, 1) := by decide +kernel
theorem dX12_readPlaces_19 : decode cX12_readPlaces 19 = .ok (.getfield 190, 3) := by decide +kernel
theorem dX12_readPlaces_22 : decode cX12_readPlaces 22 = .ok (.getfield 257, 3) := by decide +kernel
theorem dX12_readPlaces_25 : decode cX12_readPlaces 25 = .ok (.iconst 1, 1) := by decide +kernel
theorem dX12_readPlaces_26 : decode cX12_readPlaces 26 = .ok (.isub, 1) := by decide +kernel
theorem dX12_readPlaces_27 : decode cX12_readPlaces 27 = .ok (.invokevirtual 176, 3) := by decide +kernel
theorem dX12_readPlaces_30 : decode cX12_readPlaces 30 = .ok (.istore_n 3, 1) := by decide +kernel
theorem dX12_readPlaces_31 : decode cX12_readPlaces 31 = .ok (.iload_n 1, 1) := by decide +kernel
theorem dX12_readPlaces_32 : decode cX12_readPlaces 32 = .ok (.iload_n 3, 1) := by decide +kernel
theorem dX12_readPlaces_33 : decode cX12_readPlaces 33 = .ok (.ishr, 1) := by decide +kernel
theorem dX12_readPlaces_34 : decode cX12_readPlaces 34 = .ok (.iconst 1, 1) := by decide +kernel
theorem dX12_readPlaces_35 : decode cX12_readPlaces 35 = .ok (.iand, 1) := by decide +kernel
theorem dX12_readPlaces_36 : decode cX12_readPlaces 36 = .ok (.iconst 1, 1) := by decide +kernel
theorem dX12_readPlaces_37 : decode cX12_readPlaces 37 = .ok (.if_icmp .ne 8, 3) := by decide +kernel
theorem dX12_readPlaces_40 : decode cX12_readPlaces 40 = .ok (.aload_n 0, 1) := by decide +kernel
theorem dX12_readPlaces_41 : decode cX12_readPlaces 41 = .ok (.iconst 3, 1) := by decide +kernel
theorem dX12_readPlaces_42 : decode cX12_readPlaces 42 = .ok (.invokevirtual 164, 3) := by decide +kernel
theorem dX12_readPlaces_45 : decode cX12_readPlaces 45 = .ok (.aload_n 0, 1) := by decide +kernel
theorem dX12_readPlaces_46 : decode cX12_readPlaces 46 = .ok (.invokevirtual 161, 3) := by decide +kernel
theorem dX12_readPlaces_49 : decode cX12_readPlaces 49 = .ok (.iload_n 1, 1) := by decide +kernel
theorem dX12_readPlaces_50 : decode cX12_readPlaces 50 = .ok (.iconst 1, 1) := by decide +kernel
theorem dX12_readPlaces_51 : decode cX12_readPlaces 51 = .ok (.iload_n 3, 1) := by decide +kernel
theorem dX12_readPlaces_52 : decode cX12_readPlaces 52 = .ok (.ishl, 1) := by decide +kernel
theorem dX12_readPlaces_53 : decode cX12_readPlaces 53 = .ok (.ior, 1) := by decide +kernel
theorem dX12_readPlaces_54 : decode cX12_readPlaces 54 = .ok (.istore_n 1, 1) := by decide +kernel
theorem dX12_readPlaces_55 : decode cX12_readPlaces 55 = .ok (.aload_n 0, 1) := by decide +kernel
theorem dX12_readPlaces_56 : decode cX12_readPlaces 56 = .ok (.bipush 44, 2) := by decide +kernel
theorem dX12_readPlaces_58 : decode cX12_readPlaces 58 = .ok (.invokevirtual 201, 3) := by decide +kernel
theorem dX12_readPlaces_61 : decode cX12_readPlaces 61 = .ok (.istore_n 2, 1) := by decide +kernel
theorem dX12_readPlaces_62 : decode cX12_readPlaces 62 = .ok (.goto (-58), 3) := by decide +kernel
theorem dX12_readPlaces_65 : decode cX12_readPlaces 65 = .ok (.iload_n 1, 1) := by decide +kernel
theorem dX12_readPlaces_66 : decode cX12_readPlaces 66 = .ok (.ireturn, 1) := by decide +kernel
theorem dX12_feed_0 : decode cX12_feed 0 = .ok (.aload_n 0, 1) := by decide +kernel
theorem dX12_feed_1 : decode cX12_feed 1 = .ok (.iconst 0, 1) := by decide +kernel
theorem dX12_feed_2 : decode cX12_feed 2 = .ok (.putfield 86, 3) := by decide +kernel
theorem dX12_feed_5 : decode cX12_feed 5 = .ok (.aload_n 0, 1) := by decide +kernel
theorem dX12_feed_6 : decode cX12_feed 6 = .ok (.getfield 322, 3) := by decide +kernel
theorem dX12_feed_9 : decode cX12_feed 9 = .ok (.bipush 20, 2) := by decide +kernel
theorem dX12_feed_11 : decode cX12_feed 11 = .ok (.iadd, 1) := by decide +kernel
theorem dX12_feed_12 : decode cX12_feed 12 = .ok (.sipush 900, 3) := by decide +kernel
theorem dX12_feed_15 : decode cX12_feed 15 = .ok (.if_icmp .le 5, 3) := by decide +kernel
theorem dX12_feed_18 : decode cX12_feed 18 = .ok (.iconst (-1), 1) := by decide +kernel
theorem dX12_feed_19 : decode cX12_feed 19 = .ok (.ireturn, 1) := by decide +kernel
theorem dX12_feed_20 : decode cX12_feed 20 = .ok (.iconst 0, 1) := by decide +kernel
theorem dX12_feed_21 : decode cX12_feed 21 = .ok (.istore 6, 2) := by decide +kernel
theorem dX12_feed_23 : decode cX12_feed 23 = .ok (.iload 6, 2) := by decide +kernel
theorem dX12_feed_25 : decode cX12_feed 25 = .ok (.bipush 20, 2) := by decide +kernel
theorem dX12_feed_27 : decode cX12_feed 27 = .ok (.if_icmp .ge 90, 3) := by decide +kernel
theorem dX12_feed_30 : decode cX12_feed 30 = .ok (.iload 6, 2) := by decide +kernel
theorem dX12_feed_32 : decode cX12_feed 32 = .ok (.iconst 4, 1) := by decide +kernel
theorem dX12_feed_33 : decode cX12_feed 33 = .ok (.if_icmp .ge 7, 3) := by decide +kernel
theorem dX12_feed_36 : decode cX12_feed 36 = .ok (.iload_n 1, 1) := by decide +kernel
theorem dX12_feed_37 : decode cX12_feed 37 = .ok (.goto 39, 3) := by decide +kernel
theorem dX12_feed_40 : decode cX12_feed 40 = .ok (.iload 6, 2) := by decide +kernel
theorem dX12_feed_42 : decode cX12_feed 42 = .ok (.bipush 8, 2) := by decide +kernel
theorem dX12_feed_44 : decode cX12_feed 44 = .ok (.if_icmp .ge 7, 3) := by decide +kernel
theorem dX12_feed_47 : decode cX12_feed 47 = .ok (.iload_n 2, 1) := by decide +kernel
theorem dX12_feed_48 : decode cX12_feed 48 = .ok (.goto 28, 3) := by decide +kernel
theorem dX12_feed_51 : decode cX12_feed 51 = .ok (.iload 6, 2) := by decide +kernel
theorem dX12_feed_53 : decode cX12_feed 53 = .ok (.bipush 12, 2) := by decide +kernel
theorem dX12_feed_55 : decode cX12_feed 55 = .ok (.if_icmp .ge 7, 3) := by decide +kernel
theorem dX12_feed_58 : decode cX12_feed 58 = .ok (.iload_n 3, 1) := by decide +kernel
theorem dX12_feed_59 : decode cX12_feed 59 = .ok (.goto 17, 3) := by decide +kernel
theorem dX12_feed_62 : decode cX12_feed 62 = .ok (.iload 6, 2) := by decide +kernel
theorem dX12_feed_64 : decode cX12_feed 64 = .ok (.bipush 16, 2) := by decide +kernel
theorem dX12_feed_66 : decode cX12_feed 66 = .ok (.if_icmp .ge 8, 3) := by decide +kernel
theorem dX12_feed_69 : decode cX12_feed 69 = .ok (.iload 4, 2) := by decide +kernel
theorem dX12_feed_71 : decode cX12_feed 71 = .ok (.goto 5, 3) := by decide +kernel
theorem dX12_feed_74 : decode cX12_feed 74 = .ok (.iload 5, 2) := by decide +kernel
theorem dX12_feed_76 : decode cX12_feed 76 = .ok (.istore 7, 2) := by decide +kernel
theorem dX12_feed_78 : decode cX12_feed 78 = .ok (.aload_n 0, 1) := by decide +kernel
theorem dX12_feed_79 : decode cX12_feed 79 = .ok (.getfield 13, 3) := by decide +kernel
theorem dX12_feed_82 : decode cX12_feed 82 = .ok (.aload_n 0, 1) := by decide +kernel
theorem dX12_feed_83 : decode cX12_feed 83 = .ok (.getfield 322, 3) := by decide +kernel
theorem dX12_feed_86 : decode cX12_feed 86 = .ok (.iload 7, 2) := by decide +kernel
theorem dX12_feed_88 : decode cX12_feed 88 = .ok (.bipush 24, 2) := by decide +kernel
theorem dX12_feed_90 : decode cX12_feed 90 = .ok (.bipush 8, 2) := by decide +kernel
theorem dX12_feed_92 : decode cX12_feed 92 = .ok (.iload 6, 2) := by decide +kernel
theorem dX12_feed_94 : decode cX12_feed 94 = .ok (.iconst 4, 1) := by decide +kernel
theorem dX12_feed_95 : decode cX12_feed 95 = .ok (.irem, 1) := by decide +kernel
theorem dX12_feed_96 : decode cX12_feed 96 = .ok (.imul, 1) := by decide +kernel
theorem dX12_feed_97 : decode cX12_feed 97 = .ok (.isub, 1) := by decide +kernel
theorem dX12_feed_98 : decode cX12_feed 98 = .ok (.ishr, 1) := by decide +kernel
theorem dX12_feed_99 : decode cX12_feed 99 = .ok (.i2b, 1) := by decide +kernel
theorem dX12_feed_100 : decode cX12_feed 100 = .ok (.bastore, 1) := by decide +kernel
theorem dX12_feed_101 : decode cX12_feed 101 = .ok (.aload_n 0, 1) := by decide +kernel
theorem dX12_feed_102 : decode cX12_feed 102 = .ok (.dup, 1) := by decide +kernel
theorem dX12_feed_103 : decode cX12_feed 103 = .ok (.getfield 322, 3) := by decide +kernel
theorem dX12_feed_106 : decode cX12_feed 106 = .ok (.iconst 1, 1) := by decide +kernel
theorem dX12_feed_107 : decode cX12_feed 107 = .ok (.iadd, 1) := by decide +kernel
theorem dX12_feed_108 : decode cX12_feed 108 = .ok (.putfield 322, 3) := by decide +kernel
theorem dX12_feed_111 : decode cX12_feed 111 = .ok (.iinc 6 1, 3) := by decide +kernel
theorem dX12_feed_114 : decode cX12_feed 114 = .ok (.goto (-91), 3) := by decide +kernel
theorem dX12_feed_117 : decode cX12_feed 117 = .ok (.aload_n 0, 1) := by decide +kernel
theorem dX12_feed_118 : decode cX12_feed 118 = .ok (.getfield 322, 3) := by decide +kernel
theorem dX12_feed_121 : decode cX12_feed 121 = .ok (.ireturn, 1) := by decide +kernel
theorem dX12_fault_0 : decode cX12_fault 0 = .ok (.aload_n 0, 1) := by decide +kernel
theorem dX12_fault_1 : decode cX12_fault 1 = .ok (.iconst 0, 1) := by decide +kernel
theorem dX12_fault_2 : decode cX12_fault 2 = .ok (.putfield 86, 3) := by decide +kernel
theorem dX12_fault_5 : decode cX12_fault 5 = .ok (.aload_n 0, 1) := by decide +kernel
theorem dX12_fault_6 : decode cX12_fault 6 = .ok (.getfield 147, 3) := by decide +kernel
theorem dX12_fault_9 : decode cX12_fault 9 = .ok (.ireturn, 1) := by decide +kernel
theorem dX12_where_0 : decode cX12_where 0 = .ok (.aload_n 0, 1) := by decide +kernel
theorem dX12_where_1 : decode cX12_where 1 = .ok (.iconst 0, 1) := by decide +kernel
theorem dX12_where_2 : decode cX12_where 2 = .ok (.putfield 86, 3) := by decide +kernel
theorem dX12_where_5 : decode cX12_where 5 = .ok (.aload_n 0, 1) := by decide +kernel
theorem dX12_where_6 : decode cX12_where 6 = .ok (.getfield 9, 3) := by decide +kernel
theorem dX12_where_9 : decode cX12_where 9 = .ok (.ireturn, 1) := by decide +kernel
set_option maxHeartbeats 4000000 in
set_option maxRecDepth 100000 in
theorem sX12_goesOn {l : Launch} {D : va_G} {cA : Nat → ClassId} {base : Nat} {sA : Nat → Nat} {r0 : Nat} {h hE : Zh} (hf : fX12_goesOn r0 h = some hE) : zC l yX12_goesOn cX12_goesOn 3 none 1 21 D cA base sA [.ref (base + r0)] h none hE := by
  refine g_entry RX12 (by decide) rfl (Nat.le_of_ble_eq_true rfl) ?_
  intro p e s m args below meth c X hr
  unfold fX12_goesOn at hf
  have hf := zlet_n (x := h) rfl hf
  show zG p l e { frames := 1, cells := 0, slots := 0, locals := 21 } s m args below meth c (MQ below (zQ D cA base h hE none) args s 0 0 (zA base)) 3 D cA base h 0 [(0, .ref (base + r0))] [] h
  refine g_aload_n X 0 dX12_goesOn_0 rfl ?_
  obtain ⟨hk1, hf⟩ := zite hf
  refine g_get X zf12 hk1 9 (by decide) w_f_RX12_118 rfl rfl dX12_goesOn_1 ?_
  refine g_iconst X (v := 5) dX12_goesOn_4 (by decide) ?_
  refine g_icmp_ne X 9 dX12_goesOn_5 (by decide) (fun hq => ?_) (fun hq => ?_)
  · have hf := zneg hq hf
    refine g_sub [0] rfl ?_
    obtain ⟨qq, hlp, hf⟩ := zbd hf
    refine lp_snd (body := (fun q : Zh => bX12_goesOn_9 h r0 q)) (P := (fun q : Zh => zG p l e { frames := 1, cells := 0, slots := 0, locals := 21 } s m args below meth c (MQ below (zQ D cA base h hE none) args s 0 0 (zA base)) 3 D cA base h 9 [(0, .ref (base + r0))] [] q)) (E := (fun (en : Nat) (q : Zh) => zG p l e { frames := 1, cells := 0, slots := 0, locals := 21 } s m args below meth c (MQ below (zQ D cA base h hE none) args s 0 0 (zA base)) 3 D cA base h 35 [(0, .ref (base + r0))] [] q)) ?_ zB h qq.1 qq.2 hlp ?_
    · intro h_9 e_9 q_9 hf hc0 hc1
      have hf : bX12_goesOn_9 h r0 h_9 = some (e_9, q_9) := hf
      unfold bX12_goesOn_9 at hf
      show zG p l e { frames := 1, cells := 0, slots := 0, locals := 21 } s m args below meth c (MQ below (zQ D cA base h hE none) args s 0 0 (zA base)) 3 D cA base h 9 [(0, .ref (base + r0))] [] h_9
      refine g_aload_n X 0 dX12_goesOn_9 rfl ?_
      refine g_aload_n X 0 dX12_goesOn_10 rfl ?_
      refine g_get X zf12 hk1 8 (by decide) w_f_RX12_121 rfl rfl dX12_goesOn_11 ?_
      obtain ⟨v3, h2, hch2, hf⟩ := zc2_e hf
      refine g_callV X 1 (sX12_byteAt hch2) zf12 hk1 ydX12_byteAt w_ml_RX12_124 w_instanceMethod_X12_byteAt w_sel_X12_byteAt w_ini_RX12 w_code_X12_byteAt (by decide) rfl (st := []) rfl rfl (Nat.le_of_ble_eq_true rfl) dX12_goesOn_14 ?_
      refine g_bipush X (v := 32) dX12_goesOn_17 (by decide) ?_
      refine g_icmp_ne X 35 dX12_goesOn_19 (by decide) (fun hq => ?_) (fun hq => ?_)
      · have hf := zneg hq hf
        cases hf
        have hc1 := hc1 (by decide)
        exact g_sub [0] rfl hc1
      · have hf := zpos hq hf
        refine g_aload_n X 0 dX12_goesOn_22 rfl ?_
        refine g_dup X dX12_goesOn_23 rfl ?_
        refine g_get X zf12 hk1 8 (by decide) w_f_RX12_121 rfl rfl dX12_goesOn_24 ?_
        refine g_iconst X (v := 1) dX12_goesOn_27 (by decide) ?_
        refine g_iadd X dX12_goesOn_28 ?_
        refine g_putI X zf12 hk1 8 (by decide) w_f_RX12_121 rfl rfl rfl dX12_goesOn_29 ?_
        refine g_hp (fun h4 eh4 => ?_)
        have hf := zlet_n eh4 hf
        refine g_goto X 9 dX12_goesOn_32 (by decide) ?_
        cases hf
        exact g_sub [0] rfl (hc0 rfl)
    · obtain ⟨ee, h_k9⟩ := qq
      have hf : kX12_goesOn_9 h r0 ee h_k9 = some hE := hf
      unfold kX12_goesOn_9 at hf
      show zG p l e { frames := 1, cells := 0, slots := 0, locals := 21 } s m args below meth c (MQ below (zQ D cA base h hE none) args s 0 0 (zA base)) 3 D cA base h 35 [(0, .ref (base + r0))] [] h_k9
      refine g_aload_n X 0 dX12_goesOn_35 rfl ?_
      refine g_aload_n X 0 dX12_goesOn_36 rfl ?_
      refine g_get X zf12 hk1 8 (by decide) w_f_RX12_121 rfl rfl dX12_goesOn_37 ?_
      refine g_putI X zf12 hk1 10 (by decide) w_f_RX12_127 rfl rfl rfl dX12_goesOn_40 ?_
      refine g_hp (fun h5 eh5 => ?_)
      have hf := zlet_n eh5 hf
      refine g_aload_n X 0 dX12_goesOn_43 rfl ?_
      refine g_iconst X (v := 0) dX12_goesOn_44 (by decide) ?_
      refine g_putI X zf12 hk1 9 (by decide) w_f_RX12_118 rfl rfl rfl dX12_goesOn_45 ?_
      refine g_hp (fun h6 eh6 => ?_)
      have hf := zlet_n eh6 hf
      refine g_aload_n X 0 dX12_goesOn_48 rfl ?_
      refine g_iconst X (v := 0) dX12_goesOn_49 (by decide) ?_
      refine g_putI X zf12 hk1 11 (by decide) w_f_RX12_130 rfl rfl rfl dX12_goesOn_50 ?_
      refine g_hp (fun h7 eh7 => ?_)
      have hf := zlet_n eh7 hf
      refine g_aload_n X 0 dX12_goesOn_53 rfl ?_
      refine g_aload_n X 0 dX12_goesOn_54 rfl ?_
      refine g_get X zf12 hk1 8 (by decide) w_f_RX12_121 rfl rfl dX12_goesOn_55 ?_
      obtain ⟨v9, h8, hch8, hf⟩ := zc2_e hf
      refine g_callV X 1 (sX12_byteAt hch8) zf12 hk1 ydX12_byteAt w_ml_RX12_124 w_instanceMethod_X12_byteAt w_sel_X12_byteAt w_ini_RX12 w_code_X12_byteAt (by decide) rfl (st := []) rfl rfl (Nat.le_of_ble_eq_true rfl) dX12_goesOn_58 ?_
      refine g_istore_n X [(1, .int v9), (0, .ref (base + r0))] dX12_goesOn_61 (by decide) rfl ?_
      refine g_iconst X (v := 0) dX12_goesOn_62 (by decide) ?_
      refine g_istore_n X [(2, .int ((0 : Int32))), (1, .int v9), (0, .ref (base + r0))] dX12_goesOn_63 (by decide) rfl ?_
      refine g_iload_n X 1 dX12_goesOn_64 rfl ?_
      refine g_iconst X (v := -1) dX12_goesOn_65 (by decide) ?_
      refine g_icmp_ne X 77 dX12_goesOn_66 (by decide) (fun hq => ?_) (fun hq => ?_)
      · have hf := zneg hq hf
        refine g_iload_n X 1 dX12_goesOn_77 rfl ?_
        obtain ⟨v11, h10, hch10, hf⟩ := zc2_e hf
        refine g_callS X 1 (sX12_isLetter hch10) ysX12_isLetter w_ml_RX12_133 w_static_X12_isLetter w_ini_RX12 w_code_X12_isLetter (by decide) rfl (st := []) rfl rfl (Nat.le_of_ble_eq_true rfl) dX12_goesOn_78 ?_
        refine g_if_eq X 166 dX12_goesOn_81 (by decide) (fun hq => ?_) (fun hq => ?_)
        · have hf := zpos hq hf
          refine g_iload_n X 1 dX12_goesOn_166 rfl ?_
          obtain ⟨v13, h12, hch12, hf⟩ := zc2_e hf
          refine g_callS X 1 (sX12_isDigit hch12) ysX12_isDigit w_ml_RX12_141 w_static_X12_isDigit w_ini_RX12 w_code_X12_isDigit (by decide) rfl (st := []) rfl rfl (Nat.le_of_ble_eq_true rfl) dX12_goesOn_167 ?_
          refine g_if_eq X 249 dX12_goesOn_170 (by decide) (fun hq => ?_) (fun hq => ?_)
          · have hf := zpos hq hf
            refine g_iload_n X 1 dX12_goesOn_249 rfl ?_
            refine g_bipush X (v := 59) dX12_goesOn_250 (by decide) ?_
            have hJ261 : ∀ (x1_261 : Int32) (h_261 : Zh), jX12_goesOn_261 h r0 x1_261 h_261 = some hE → zG p l e { frames := 1, cells := 0, slots := 0, locals := 21 } s m args below meth c (MQ below (zQ D cA base h hE none) args s 0 0 (zA base)) 3 D cA base h 261 [(0, .ref (base + r0)), (1, .int x1_261)] [] h_261 := by
              intro x1_261 h_261 hf
              unfold jX12_goesOn_261 at hf
              refine g_aload_n X 0 dX12_goesOn_261 rfl ?_
              refine g_iconst X (v := 4) dX12_goesOn_262 (by decide) ?_
              refine g_putI X zf12 hk1 9 (by decide) w_f_RX12_118 rfl rfl rfl dX12_goesOn_263 ?_
              refine g_hp (fun h14 eh14 => ?_)
              have hf := zlet_n eh14 hf
              refine g_aload_n X 0 dX12_goesOn_266 rfl ?_
              refine g_iload_n X 1 dX12_goesOn_267 rfl ?_
              refine g_putI X zf12 hk1 11 (by decide) w_f_RX12_130 rfl rfl rfl dX12_goesOn_268 ?_
              refine g_hp (fun h15 eh15 => ?_)
              have hf := zlet_n eh15 hf
              refine g_aload_n X 0 dX12_goesOn_271 rfl ?_
              refine g_dup X dX12_goesOn_272 rfl ?_
              refine g_get X zf12 hk1 8 (by decide) w_f_RX12_121 rfl rfl dX12_goesOn_273 ?_
              refine g_iconst X (v := 1) dX12_goesOn_276 (by decide) ?_
              refine g_iadd X dX12_goesOn_277 ?_
              refine g_putI X zf12 hk1 8 (by decide) w_f_RX12_121 rfl rfl rfl dX12_goesOn_278 ?_
              refine g_hp (fun h16 eh16 => ?_)
              have hf := zlet_n eh16 hf
              cases hf
              exact g_vret X hr dX12_goesOn_281
            refine g_icmp_eq X 261 dX12_goesOn_252 (by decide) (fun hq => ?_) (fun hq => ?_)
            · have hf := zpos hq hf
              refine g_sub [2, 1] rfl ?_
              exact hJ261 _ _ hf
            · have hf := zneg hq hf
              refine g_iload_n X 1 dX12_goesOn_255 rfl ?_
              refine g_bipush X (v := 44) dX12_goesOn_256 (by decide) ?_
              refine g_icmp_ne X 281 dX12_goesOn_258 (by decide) (fun hq => ?_) (fun hq => ?_)
              · have hf := zneg hq hf
                cases hf
                exact g_vret X hr dX12_goesOn_281
              · have hf := zpos hq hf
                refine g_sub [2, 1] rfl ?_
                exact hJ261 _ _ hf
          · have hf := zneg hq hf
            refine g_aload_n X 2 dX12_goesOn_173 rfl ?_
            refine g_iconst X (v := 0) dX12_goesOn_174 (by decide) ?_
            refine g_putI X zf12 hk1 12 (by decide) w_f_RX12_144 rfl rfl rfl dX12_goesOn_175 ?_
            refine g_hp (fun h17 eh17 => ?_)
            have hf := zlet_n eh17 hf
            refine g_sub [2, 0] rfl ?_
            obtain ⟨qq, hlp, hf⟩ := zbd hf
            refine lp_snd (body := (fun q : Int32 × Zh => bX12_goesOn_178 h r0 q.1 q.2)) (P := (fun q : Int32 × Zh => zG p l e { frames := 1, cells := 0, slots := 0, locals := 21 } s m args below meth c (MQ below (zQ D cA base h hE none) args s 0 0 (zA base)) 3 D cA base h 178 [(0, .ref (base + r0)), (2, .int q.1)] [] q.2)) (E := (fun (en : Nat) (q : Int32 × Zh) => zG p l e { frames := 1, cells := 0, slots := 0, locals := 21 } s m args below meth c (MQ below (zQ D cA base h hE none) args s 0 0 (zA base)) 3 D cA base h 236 [(0, .ref (base + r0)), (2, .int q.1)] [] q.2)) ?_ zB ((0 : Int32), h17) qq.1 qq.2 hlp ?_
            · intro q e_178 q_178 hf hc0 hc1
              obtain ⟨x2_178, h_178⟩ := q
              have hf : bX12_goesOn_178 h r0 x2_178 h_178 = some (e_178, q_178) := hf
              unfold bX12_goesOn_178 at hf
              show zG p l e { frames := 1, cells := 0, slots := 0, locals := 21 } s m args below meth c (MQ below (zQ D cA base h hE none) args s 0 0 (zA base)) 3 D cA base h 178 [(0, .ref (base + r0)), (2, .int x2_178)] [] h_178
              refine g_aload_n X 0 dX12_goesOn_178 rfl ?_
              refine g_aload_n X 0 dX12_goesOn_179 rfl ?_
              refine g_get X zf12 hk1 8 (by decide) w_f_RX12_121 rfl rfl dX12_goesOn_180 ?_
              obtain ⟨v19, h18, hch18, hf⟩ := zc2_e hf
              refine g_callV X 1 (sX12_byteAt hch18) zf12 hk1 ydX12_byteAt w_ml_RX12_124 w_instanceMethod_X12_byteAt w_sel_X12_byteAt w_ini_RX12 w_code_X12_byteAt (by decide) rfl (st := []) rfl rfl (Nat.le_of_ble_eq_true rfl) dX12_goesOn_183 ?_
              obtain ⟨v21, h20, hch20, hf⟩ := zc2_e hf
              refine g_callS X 1 (sX12_isDigit hch20) ysX12_isDigit w_ml_RX12_141 w_static_X12_isDigit w_ini_RX12 w_code_X12_isDigit (by decide) rfl (st := []) rfl rfl (Nat.le_of_ble_eq_true rfl) dX12_goesOn_186 ?_
              refine g_if_eq X 236 dX12_goesOn_189 (by decide) (fun hq => ?_) (fun hq => ?_)
              · have hf := zpos hq hf
                cases hf
                have hc1 := hc1 (by decide)
                exact g_sub [0, 1] rfl hc1
              · have hf := zneg hq hf
                refine g_iload_n X 1 dX12_goesOn_192 rfl ?_
                refine g_iconst X (v := 3) dX12_goesOn_193 (by decide) ?_
                refine g_icmp_ge X 220 dX12_goesOn_194 (by decide) (fun hq => ?_) (fun hq => ?_)
                · have hf := zpos hq hf
                  obtain ⟨y22, ey22⟩ : ∃ y : Int32, y = x2_178 + (1 : Int32) := ⟨_, rfl⟩
                  have hf := zlet_n ey22 hf
                  refine g_iinc X (j := 1) [(2, .int y22), (0, .ref (base + r0))] dX12_goesOn_220 rfl (by rw [ey22]; rfl) (by decide) rfl ?_
                  refine g_aload_n X 1 dX12_goesOn_223 rfl ?_
                  refine g_dup X dX12_goesOn_224 rfl ?_
                  refine g_get X zf12 hk1 8 (by decide) w_f_RX12_121 rfl rfl dX12_goesOn_225 ?_
                  refine g_iconst X (v := 1) dX12_goesOn_228 (by decide) ?_
                  refine g_iadd X dX12_goesOn_229 ?_
                  refine g_putI X zf12 hk1 8 (by decide) w_f_RX12_121 rfl rfl rfl dX12_goesOn_230 ?_
                  refine g_hp (fun h23 eh23 => ?_)
                  have hf := zlet_n eh23 hf
                  refine g_goto X 178 dX12_goesOn_233 (by decide) ?_
                  cases hf
                  exact g_sub [1, 0] rfl (hc0 rfl)
                · have hf := zneg hq hf
                  refine g_aload_n X 0 dX12_goesOn_197 rfl ?_
                  refine g_bipush X (v := 10) dX12_goesOn_198 (by decide) ?_
                  refine g_aload_n X 0 dX12_goesOn_200 rfl ?_
                  refine g_get X zf12 hk1 12 (by decide) w_f_RX12_144 rfl rfl dX12_goesOn_201 ?_
                  refine g_imul X dX12_goesOn_204 ?_
                  refine g_aload_n X 0 dX12_goesOn_205 rfl ?_
                  refine g_aload_n X 0 dX12_goesOn_206 rfl ?_
                  refine g_get X zf12 hk1 8 (by decide) w_f_RX12_121 rfl rfl dX12_goesOn_207 ?_
                  obtain ⟨v25, h24, hch24, hf⟩ := zc2_e hf
                  refine g_callV X 1 (sX12_byteAt hch24) zf12 hk1 ydX12_byteAt w_ml_RX12_124 w_instanceMethod_X12_byteAt w_sel_X12_byteAt w_ini_RX12 w_code_X12_byteAt (by decide) rfl (st := [.int (((10 : Int32)) * (zI h20 r0 12)), .ref (base + r0)]) rfl rfl (Nat.le_of_ble_eq_true rfl) dX12_goesOn_210 ?_
                  refine g_iadd X dX12_goesOn_213 ?_
                  refine g_bipush X (v := 48) dX12_goesOn_214 (by decide) ?_
                  refine g_isub X dX12_goesOn_216 ?_
                  refine g_putI X zf12 hk1 12 (by decide) w_f_RX12_144 rfl rfl rfl dX12_goesOn_217 ?_
                  refine g_hp (fun h26 eh26 => ?_)
                  have hf := zlet_n eh26 hf
                  obtain ⟨y27, ey27⟩ : ∃ y : Int32, y = x2_178 + (1 : Int32) := ⟨_, rfl⟩
                  have hf := zlet_n ey27 hf
                  refine g_iinc X (j := 1) [(2, .int y27), (0, .ref (base + r0))] dX12_goesOn_220 rfl (by rw [ey27]; rfl) (by decide) rfl ?_
                  refine g_aload_n X 1 dX12_goesOn_223 rfl ?_
                  refine g_dup X dX12_goesOn_224 rfl ?_
                  refine g_get X zf12 hk1 8 (by decide) w_f_RX12_121 rfl rfl dX12_goesOn_225 ?_
                  refine g_iconst X (v := 1) dX12_goesOn_228 (by decide) ?_
                  refine g_iadd X dX12_goesOn_229 ?_
                  refine g_putI X zf12 hk1 8 (by decide) w_f_RX12_121 rfl rfl rfl dX12_goesOn_230 ?_
                  refine g_hp (fun h28 eh28 => ?_)
                  have hf := zlet_n eh28 hf
                  refine g_goto X 178 dX12_goesOn_233 (by decide) ?_
                  cases hf
                  exact g_sub [1, 0] rfl (hc0 rfl)
            · obtain ⟨ee, x2_k178, h_k178⟩ := qq
              have hf : kX12_goesOn_178 h r0 ee x2_k178 h_k178 = some hE := hf
              unfold kX12_goesOn_178 at hf
              show zG p l e { frames := 1, cells := 0, slots := 0, locals := 21 } s m args below meth c (MQ below (zQ D cA base h hE none) args s 0 0 (zA base)) 3 D cA base h 236 [(0, .ref (base + r0)), (2, .int x2_k178)] [] h_k178
              refine g_iload_n X 1 dX12_goesOn_236 rfl ?_
              refine g_iconst X (v := 3) dX12_goesOn_237 (by decide) ?_
              refine g_icmp_gt X 281 dX12_goesOn_238 (by decide) (fun hq => ?_) (fun hq => ?_)
              · have hf := zpos hq hf
                cases hf
                exact g_vret X hr dX12_goesOn_281
              · have hf := zneg hq hf
                refine g_aload_n X 0 dX12_goesOn_241 rfl ?_
                refine g_iconst X (v := 3) dX12_goesOn_242 (by decide) ?_
                refine g_putI X zf12 hk1 9 (by decide) w_f_RX12_118 rfl rfl rfl dX12_goesOn_243 ?_
                refine g_hp (fun h29 eh29 => ?_)
                have hf := zlet_n eh29 hf
                refine g_goto X 281 dX12_goesOn_246 (by decide) ?_
                cases hf
                exact g_vret X hr dX12_goesOn_281
        · have hf := zneg hq hf
          refine g_aload_n X 2 dX12_goesOn_84 rfl ?_
          refine g_lconst X (v := 0) dX12_goesOn_85 (by decide) ?_
          refine g_putJ X zf12 hk1 15 (by decide) w_f_RX12_137 rfl rfl rfl dX12_goesOn_86 ?_
          refine g_hp (fun h30 eh30 => ?_)
          have hf := zlet_n eh30 hf
          refine g_sub [2, 0] rfl ?_
          obtain ⟨qq, hlp, hf⟩ := zbd hf
          refine lp_snd (body := (fun q : Int32 × Zh => bX12_goesOn_89 h r0 q.1 q.2)) (P := (fun q : Int32 × Zh => zG p l e { frames := 1, cells := 0, slots := 0, locals := 21 } s m args below meth c (MQ below (zQ D cA base h hE none) args s 0 0 (zA base)) 3 D cA base h 89 [(0, .ref (base + r0)), (2, .int q.1)] [] q.2)) (E := (fun (en : Nat) (q : Int32 × Zh) => zG p l e { frames := 1, cells := 0, slots := 0, locals := 21 } s m args below meth c (MQ below (zQ D cA base h hE none) args s 0 0 (zA base)) 3 D cA base h 152 [(0, .ref (base + r0)), (2, .int q.1)] [] q.2)) ?_ zB ((0 : Int32), h30) qq.1 qq.2 hlp ?_
          · intro q e_89 q_89 hf hc0 hc1
            obtain ⟨x2_89, h_89⟩ := q
            have hf : bX12_goesOn_89 h r0 x2_89 h_89 = some (e_89, q_89) := hf
            unfold bX12_goesOn_89 at hf
            show zG p l e { frames := 1, cells := 0, slots := 0, locals := 21 } s m args below meth c (MQ below (zQ D cA base h hE none) args s 0 0 (zA base)) 3 D cA base h 89 [(0, .ref (base + r0)), (2, .int x2_89)] [] h_89
            refine g_aload_n X 0 dX12_goesOn_89 rfl ?_
            refine g_aload_n X 0 dX12_goesOn_90 rfl ?_
            refine g_get X zf12 hk1 8 (by decide) w_f_RX12_121 rfl rfl dX12_goesOn_91 ?_
            obtain ⟨v32, h31, hch31, hf⟩ := zc2_e hf
            refine g_callV X 1 (sX12_byteAt hch31) zf12 hk1 ydX12_byteAt w_ml_RX12_124 w_instanceMethod_X12_byteAt w_sel_X12_byteAt w_ini_RX12 w_code_X12_byteAt (by decide) rfl (st := []) rfl rfl (Nat.le_of_ble_eq_true rfl) dX12_goesOn_94 ?_
            obtain ⟨v34, h33, hch33, hf⟩ := zc2_e hf
            refine g_callS X 1 (sX12_isLetter hch33) ysX12_isLetter w_ml_RX12_133 w_static_X12_isLetter w_ini_RX12 w_code_X12_isLetter (by decide) rfl (st := []) rfl rfl (Nat.le_of_ble_eq_true rfl) dX12_goesOn_97 ?_
            refine g_if_eq X 152 dX12_goesOn_100 (by decide) (fun hq => ?_) (fun hq => ?_)
            · have hf := zpos hq hf
              cases hf
              have hc1 := hc1 (by decide)
              exact g_sub [0, 1] rfl hc1
            · have hf := zneg hq hf
              refine g_iload_n X 1 dX12_goesOn_103 rfl ?_
              refine g_bipush X (v := 8) dX12_goesOn_104 (by decide) ?_
              refine g_icmp_ge X 136 dX12_goesOn_106 (by decide) (fun hq => ?_) (fun hq => ?_)
              · have hf := zpos hq hf
                obtain ⟨y35, ey35⟩ : ∃ y : Int32, y = x2_89 + (1 : Int32) := ⟨_, rfl⟩
                have hf := zlet_n ey35 hf
                refine g_iinc X (j := 1) [(2, .int y35), (0, .ref (base + r0))] dX12_goesOn_136 rfl (by rw [ey35]; rfl) (by decide) rfl ?_
                refine g_aload_n X 1 dX12_goesOn_139 rfl ?_
                refine g_dup X dX12_goesOn_140 rfl ?_
                refine g_get X zf12 hk1 8 (by decide) w_f_RX12_121 rfl rfl dX12_goesOn_141 ?_
                refine g_iconst X (v := 1) dX12_goesOn_144 (by decide) ?_
                refine g_iadd X dX12_goesOn_145 ?_
                refine g_putI X zf12 hk1 8 (by decide) w_f_RX12_121 rfl rfl rfl dX12_goesOn_146 ?_
                refine g_hp (fun h36 eh36 => ?_)
                have hf := zlet_n eh36 hf
                refine g_goto X 89 dX12_goesOn_149 (by decide) ?_
                cases hf
                exact g_sub [1, 0] rfl (hc0 rfl)
              · have hf := zneg hq hf
                refine g_aload_n X 0 dX12_goesOn_109 rfl ?_
                refine g_ldc2 X w_c_RX12_112 dX12_goesOn_110 ?_
                refine g_aload_n X 0 dX12_goesOn_113 rfl ?_
                refine g_get X zf12 hk1 15 (by decide) w_f_RX12_137 rfl rfl dX12_goesOn_114 ?_
                refine g_lmul X dX12_goesOn_117 ?_
                refine g_aload_n X 0 dX12_goesOn_118 rfl ?_
                refine g_aload_n X 0 dX12_goesOn_119 rfl ?_
                refine g_get X zf12 hk1 8 (by decide) w_f_RX12_121 rfl rfl dX12_goesOn_120 ?_
                obtain ⟨v38, h37, hch37, hf⟩ := zc2_e hf
                refine g_callV X 1 (sX12_byteAt hch37) zf12 hk1 ydX12_byteAt w_ml_RX12_124 w_instanceMethod_X12_byteAt w_sel_X12_byteAt w_ini_RX12 w_code_X12_byteAt (by decide) rfl (st := [.long (((32 : Int64)) * (zJ h33 r0 15)), .ref (base + r0)]) rfl rfl (Nat.le_of_ble_eq_true rfl) dX12_goesOn_123 ?_
                refine g_bipush X (v := 97) dX12_goesOn_126 (by decide) ?_
                refine g_isub X dX12_goesOn_128 ?_
                refine g_iconst X (v := 1) dX12_goesOn_129 (by decide) ?_
                refine g_iadd X dX12_goesOn_130 ?_
                refine g_i2l X dX12_goesOn_131 ?_
                refine g_ladd X dX12_goesOn_132 ?_
                refine g_putJ X zf12 hk1 15 (by decide) w_f_RX12_137 rfl rfl rfl dX12_goesOn_133 ?_
                refine g_hp (fun h39 eh39 => ?_)
                have hf := zlet_n eh39 hf
                obtain ⟨y40, ey40⟩ : ∃ y : Int32, y = x2_89 + (1 : Int32) := ⟨_, rfl⟩
                have hf := zlet_n ey40 hf
                refine g_iinc X (j := 1) [(2, .int y40), (0, .ref (base + r0))] dX12_goesOn_136 rfl (by rw [ey40]; rfl) (by decide) rfl ?_
                refine g_aload_n X 1 dX12_goesOn_139 rfl ?_
                refine g_dup X dX12_goesOn_140 rfl ?_
                refine g_get X zf12 hk1 8 (by decide) w_f_RX12_121 rfl rfl dX12_goesOn_141 ?_
                refine g_iconst X (v := 1) dX12_goesOn_144 (by decide) ?_
                refine g_iadd X dX12_goesOn_145 ?_
                refine g_putI X zf12 hk1 8 (by decide) w_f_RX12_121 rfl rfl rfl dX12_goesOn_146 ?_
                refine g_hp (fun h41 eh41 => ?_)
                have hf := zlet_n eh41 hf
                refine g_goto X 89 dX12_goesOn_149 (by decide) ?_
                cases hf
                exact g_sub [1, 0] rfl (hc0 rfl)
          · obtain ⟨ee, x2_k89, h_k89⟩ := qq
            have hf : kX12_goesOn_89 h r0 ee x2_k89 h_k89 = some hE := hf
            unfold kX12_goesOn_89 at hf
            show zG p l e { frames := 1, cells := 0, slots := 0, locals := 21 } s m args below meth c (MQ below (zQ D cA base h hE none) args s 0 0 (zA base)) 3 D cA base h 152 [(0, .ref (base + r0)), (2, .int x2_k89)] [] h_k89
            refine g_iload_n X 1 dX12_goesOn_152 rfl ?_
            refine g_bipush X (v := 8) dX12_goesOn_153 (by decide) ?_
            refine g_icmp_gt X 281 dX12_goesOn_155 (by decide) (fun hq => ?_) (fun hq => ?_)
            · have hf := zpos hq hf
              cases hf
              exact g_vret X hr dX12_goesOn_281
            · have hf := zneg hq hf
              refine g_aload_n X 0 dX12_goesOn_158 rfl ?_
              refine g_iconst X (v := 2) dX12_goesOn_159 (by decide) ?_
              refine g_putI X zf12 hk1 9 (by decide) w_f_RX12_118 rfl rfl rfl dX12_goesOn_160 ?_
              refine g_hp (fun h42 eh42 => ?_)
              have hf := zlet_n eh42 hf
              refine g_goto X 281 dX12_goesOn_163 (by decide) ?_
              cases hf
              exact g_vret X hr dX12_goesOn_281
      · have hf := zpos hq hf
        refine g_aload_n X 2 dX12_goesOn_69 rfl ?_
        refine g_iconst X (v := 1) dX12_goesOn_70 (by decide) ?_
        refine g_putI X zf12 hk1 9 (by decide) w_f_RX12_118 rfl rfl rfl dX12_goesOn_71 ?_
        refine g_hp (fun h43 eh43 => ?_)
        have hf := zlet_n eh43 hf
        refine g_goto X 281 dX12_goesOn_74 (by decide) ?_
        cases hf
        exact g_vret X hr dX12_goesOn_281
  · have hf := zpos hq hf
    cases hf
    exact g_vret X hr dX12_goesOn_8

set_option maxHeartbeats 4000000 in
set_option maxRecDepth 100000 in
theorem sX12_flaw {l : Launch} {D : va_G} {cA : Nat → ClassId} {base : Nat} {sA : Nat → Nat} {r0 : Nat} {x1 : Int32} {h hE : Zh} (hf : fX12_flaw r0 x1 h = some hE) : zC l yX12_flaw cX12_flaw 2 none 0 0 D cA base sA [.ref (base + r0), .int x1] h none hE := by
  refine g_entry RX12 (by decide) rfl (Nat.le_of_ble_eq_true rfl) ?_
  intro p e s m args below meth c X hr
  unfold fX12_flaw at hf
  have hf := zlet_n (x := h) rfl hf
  show zG p l e { frames := 0, cells := 0, slots := 0, locals := 0 } s m args below meth c (MQ below (zQ D cA base h hE none) args s 0 0 (zA base)) 2 D cA base h 0 [(0, .ref (base + r0)), (1, .int x1)] [] h
  refine g_aload_n X 0 dX12_flaw_0 rfl ?_
  obtain ⟨hk1, hf⟩ := zite hf
  refine g_get X zf12 hk1 9 (by decide) w_f_RX12_118 rfl rfl dX12_flaw_1 ?_
  refine g_iconst X (v := 5) dX12_flaw_4 (by decide) ?_
  refine g_icmp_ne X 9 dX12_flaw_5 (by decide) (fun hq => ?_) (fun hq => ?_)
  · have hf := zneg hq hf
    refine g_aload_n X 0 dX12_flaw_9 rfl ?_
    refine g_iload_n X 1 dX12_flaw_10 rfl ?_
    refine g_putI X zf12 hk1 13 (by decide) w_f_RX12_147 rfl rfl rfl dX12_flaw_11 ?_
    refine g_hp (fun h2 eh2 => ?_)
    have hf := zlet_n eh2 hf
    refine g_aload_n X 0 dX12_flaw_14 rfl ?_
    refine g_aload_n X 0 dX12_flaw_15 rfl ?_
    refine g_get X zf12 hk1 10 (by decide) w_f_RX12_127 rfl rfl dX12_flaw_16 ?_
    refine g_putI X zf12 hk1 14 (by decide) w_f_RX12_150 rfl rfl rfl dX12_flaw_19 ?_
    refine g_hp (fun h3 eh3 => ?_)
    have hf := zlet_n eh3 hf
    refine g_aload_n X 0 dX12_flaw_22 rfl ?_
    refine g_iconst X (v := 5) dX12_flaw_23 (by decide) ?_
    refine g_putI X zf12 hk1 9 (by decide) w_f_RX12_118 rfl rfl rfl dX12_flaw_24 ?_
    refine g_hp (fun h4 eh4 => ?_)
    have hf := zlet_n eh4 hf
    cases hf
    exact g_vret X hr dX12_flaw_27
  · have hf := zpos hq hf
    cases hf
    exact g_vret X hr dX12_flaw_8

set_option maxHeartbeats 4000000 in
set_option maxRecDepth 100000 in
theorem sX12_eatsSign {l : Launch} {D : va_G} {cA : Nat → ClassId} {base : Nat} {sA : Nat → Nat} {r0 : Nat} {x1 : Int32} {h hE : Zh} {rE : Int32} (hf : fX12_eatsSign r0 x1 h = some (rE, hE)) : zC l yX12_eatsSign cX12_eatsSign 3 (some .boolean) 2 43 D cA base sA [.ref (base + r0), .int x1] h (some (.int rE)) hE := by
  refine g_entry RX12 (by decide) rfl (Nat.le_of_ble_eq_true rfl) ?_
  intro p e s m args below meth c X hr
  unfold fX12_eatsSign at hf
  have hf := zlet_n (x := h) rfl hf
  show zG p l e { frames := 2, cells := 0, slots := 0, locals := 43 } s m args below meth c (MQ below (zQ D cA base h hE (some (.int rE))) args s 0 0 (zA base)) 3 D cA base h 0 [(0, .ref (base + r0)), (1, .int x1)] [] h
  refine g_aload_n X 0 dX12_eatsSign_0 rfl ?_
  obtain ⟨hk1, hf⟩ := zite hf
  refine g_get X zf12 hk1 9 (by decide) w_f_RX12_118 rfl rfl dX12_eatsSign_1 ?_
  refine g_iconst X (v := 4) dX12_eatsSign_4 (by decide) ?_
  have hJ21 : ∀ (t0_21 : Int32) (h_21 : Zh), jX12_eatsSign_21 h r0 t0_21 h_21 = some (rE, hE) → zG p l e { frames := 2, cells := 0, slots := 0, locals := 43 } s m args below meth c (MQ below (zQ D cA base h hE (some (.int rE))) args s 0 0 (zA base)) 3 D cA base h 21 [(0, .ref (base + r0))] [.int t0_21] h_21 := by
    intro t0_21 h_21 hf
    unfold jX12_eatsSign_21 at hf
    refine g_istore_n X [(2, .int t0_21), (0, .ref (base + r0))] dX12_eatsSign_21 (by decide) rfl ?_
    refine g_iload_n X 0 dX12_eatsSign_22 rfl ?_
    refine g_if_eq X 30 dX12_eatsSign_23 (by decide) (fun hq => ?_) (fun hq => ?_)
    · have hf := zpos hq hf
      refine g_iload_n X 0 dX12_eatsSign_30 rfl ?_
      obtain ⟨hb2, hf⟩ := zite hf
      obtain ⟨rfl, rfl⟩ := zsm hf
      exact g_zret X hb2 hr dX12_eatsSign_31
    · have hf := zneg hq hf
      refine g_aload_n X 1 dX12_eatsSign_26 rfl ?_
      obtain ⟨h3, hch3, hf⟩ := zbd hf
      refine g_callV X 0 (sX12_goesOn hch3) zf12 hk1 ydX12_goesOn w_ml_RX12_161 w_instanceMethod_X12_goesOn w_sel_X12_goesOn w_ini_RX12 w_code_X12_goesOn (by decide) rfl (st := []) rfl rfl (Nat.le_of_ble_eq_true rfl) dX12_eatsSign_27 ?_
      refine g_iload_n X 0 dX12_eatsSign_30 rfl ?_
      obtain ⟨hb4, hf⟩ := zite hf
      obtain ⟨rfl, rfl⟩ := zsm hf
      exact g_zret X hb4 hr dX12_eatsSign_31
  have hJ20 : ∀  (h_20 : Zh), jX12_eatsSign_20 h r0 h_20 = some (rE, hE) → zG p l e { frames := 2, cells := 0, slots := 0, locals := 43 } s m args below meth c (MQ below (zQ D cA base h hE (some (.int rE))) args s 0 0 (zA base)) 3 D cA base h 20 [(0, .ref (base + r0))] [] h_20 := by
    intro  h_20 hf
    unfold jX12_eatsSign_20 at hf
    refine g_iconst X (v := 0) dX12_eatsSign_20 (by decide) ?_
    refine g_sub [0] rfl ?_
    exact hJ21 _ _ hf
  refine g_icmp_ne X 20 dX12_eatsSign_5 (by decide) (fun hq => ?_) (fun hq => ?_)
  · have hf := zneg hq hf
    refine g_sub [0] rfl ?_
    exact hJ20 _ hf
  · have hf := zpos hq hf
    refine g_aload_n X 0 dX12_eatsSign_8 rfl ?_
    refine g_get X zf12 hk1 11 (by decide) w_f_RX12_130 rfl rfl dX12_eatsSign_9 ?_
    refine g_iload_n X 1 dX12_eatsSign_12 rfl ?_
    refine g_icmp_ne X 20 dX12_eatsSign_13 (by decide) (fun hq => ?_) (fun hq => ?_)
    · have hf := zneg hq hf
      refine g_sub [0] rfl ?_
      exact hJ20 _ hf
    · have hf := zpos hq hf
      refine g_iconst X (v := 1) dX12_eatsSign_16 (by decide) ?_
      refine g_goto X 21 dX12_eatsSign_17 (by decide) ?_
      refine g_sub [0] rfl ?_
      exact hJ21 _ _ hf

set_option maxHeartbeats 4000000 in
set_option maxRecDepth 100000 in
theorem sX12_needsSign {l : Launch} {D : va_G} {cA : Nat → ClassId} {base : Nat} {sA : Nat → Nat} {r0 : Nat} {x1 : Int32} {h hE : Zh} (hf : fX12_needsSign r0 x1 h = some hE) : zC l yX12_needsSign cX12_needsSign 2 none 2 43 D cA base sA [.ref (base + r0), .int x1] h none hE := by
  refine g_entry RX12 (by decide) rfl (Nat.le_of_ble_eq_true rfl) ?_
  intro p e s m args below meth c X hr
  unfold fX12_needsSign at hf
  have hf := zlet_n (x := h) rfl hf
  show zG p l e { frames := 2, cells := 0, slots := 0, locals := 43 } s m args below meth c (MQ below (zQ D cA base h hE none) args s 0 0 (zA base)) 2 D cA base h 0 [(0, .ref (base + r0)), (1, .int x1)] [] h
  refine g_aload_n X 0 dX12_needsSign_0 rfl ?_
  obtain ⟨hk1, hf⟩ := zite hf
  refine g_get X zf12 hk1 9 (by decide) w_f_RX12_118 rfl rfl dX12_needsSign_1 ?_
  refine g_iconst X (v := 4) dX12_needsSign_4 (by decide) ?_
  refine g_icmp_ne X 16 dX12_needsSign_5 (by decide) (fun hq => ?_) (fun hq => ?_)
  · have hf := zneg hq hf
    refine g_aload_n X 0 dX12_needsSign_16 rfl ?_
    refine g_iconst X (v := 1) dX12_needsSign_17 (by decide) ?_
    obtain ⟨h2, hch2, hf⟩ := zbd hf
    refine g_callV X 1 (sX12_flaw hch2) zf12 hk1 ydX12_flaw w_ml_RX12_164 w_instanceMethod_X12_flaw w_sel_X12_flaw w_ini_RX12 w_code_X12_flaw (by decide) rfl (st := []) rfl rfl (Nat.le_of_ble_eq_true rfl) dX12_needsSign_18 ?_
    refine g_aload_n X 0 dX12_needsSign_21 rfl ?_
    obtain ⟨h3, hch3, hf⟩ := zbd hf
    refine g_callV X 0 (sX12_goesOn hch3) zf12 hk1 ydX12_goesOn w_ml_RX12_161 w_instanceMethod_X12_goesOn w_sel_X12_goesOn w_ini_RX12 w_code_X12_goesOn (by decide) rfl (st := []) rfl rfl (Nat.le_of_ble_eq_true rfl) dX12_needsSign_22 ?_
    cases hf
    exact g_vret X hr dX12_needsSign_25
  · have hf := zpos hq hf
    refine g_aload_n X 0 dX12_needsSign_8 rfl ?_
    refine g_get X zf12 hk1 11 (by decide) w_f_RX12_130 rfl rfl dX12_needsSign_9 ?_
    refine g_iload_n X 1 dX12_needsSign_12 rfl ?_
    refine g_icmp_eq X 21 dX12_needsSign_13 (by decide) (fun hq => ?_) (fun hq => ?_)
    · have hf := zpos hq hf
      refine g_aload_n X 0 dX12_needsSign_21 rfl ?_
      obtain ⟨h4, hch4, hf⟩ := zbd hf
      refine g_callV X 0 (sX12_goesOn hch4) zf12 hk1 ydX12_goesOn w_ml_RX12_161 w_instanceMethod_X12_goesOn w_sel_X12_goesOn w_ini_RX12 w_code_X12_goesOn (by decide) rfl (st := []) rfl rfl (Nat.le_of_ble_eq_true rfl) dX12_needsSign_22 ?_
      cases hf
      exact g_vret X hr dX12_needsSign_25
    · have hf := zneg hq hf
      refine g_aload_n X 0 dX12_needsSign_16 rfl ?_
      refine g_iconst X (v := 1) dX12_needsSign_17 (by decide) ?_
      obtain ⟨h5, hch5, hf⟩ := zbd hf
      refine g_callV X 1 (sX12_flaw hch5) zf12 hk1 ydX12_flaw w_ml_RX12_164 w_instanceMethod_X12_flaw w_sel_X12_flaw w_ini_RX12 w_code_X12_flaw (by decide) rfl (st := []) rfl rfl (Nat.le_of_ble_eq_true rfl) dX12_needsSign_18 ?_
      refine g_aload_n X 0 dX12_needsSign_21 rfl ?_
      obtain ⟨h6, hch6, hf⟩ := zbd hf
      refine g_callV X 0 (sX12_goesOn hch6) zf12 hk1 ydX12_goesOn w_ml_RX12_161 w_instanceMethod_X12_goesOn w_sel_X12_goesOn w_ini_RX12 w_code_X12_goesOn (by decide) rfl (st := []) rfl rfl (Nat.le_of_ble_eq_true rfl) dX12_needsSign_22 ?_
      cases hf
      exact g_vret X hr dX12_needsSign_25

set_option maxHeartbeats 4000000 in
set_option maxRecDepth 100000 in
theorem sX12_bounded {l : Launch} {D : va_G} {cA : Nat → ClassId} {base : Nat} {sA : Nat → Nat} {r0 : Nat} {x1 : Int32} {x2 : Int32} {h hE : Zh} {rE : Int32} (hf : fX12_bounded r0 x1 x2 h = some (rE, hE)) : zC l yX12_bounded cX12_bounded 3 (some .int) 1 22 D cA base sA [.ref (base + r0), .int x1, .int x2] h (some (.int rE)) hE := by
  refine g_entry RX12 (by decide) rfl (Nat.le_of_ble_eq_true rfl) ?_
  intro p e s m args below meth c X hr
  unfold fX12_bounded at hf
  have hf := zlet_n (x := h) rfl hf
  show zG p l e { frames := 1, cells := 0, slots := 0, locals := 22 } s m args below meth c (MQ below (zQ D cA base h hE (some (.int rE))) args s 0 0 (zA base)) 3 D cA base h 0 [(0, .ref (base + r0)), (1, .int x1), (2, .int x2)] [] h
  refine g_aload_n X 0 dX12_bounded_0 rfl ?_
  obtain ⟨hk1, hf⟩ := zite hf
  refine g_get X zf12 hk1 9 (by decide) w_f_RX12_118 rfl rfl dX12_bounded_1 ?_
  refine g_iconst X (v := 3) dX12_bounded_4 (by decide) ?_
  have hJ33 : ∀  (h_33 : Zh), jX12_bounded_33 h r0 x1 h_33 = some (rE, hE) → zG p l e { frames := 1, cells := 0, slots := 0, locals := 22 } s m args below meth c (MQ below (zQ D cA base h hE (some (.int rE))) args s 0 0 (zA base)) 3 D cA base h 33 [(0, .ref (base + r0)), (1, .int x1)] [] h_33 := by
    intro  h_33 hf
    unfold jX12_bounded_33 at hf
    refine g_aload_n X 0 dX12_bounded_33 rfl ?_
    refine g_get X zf12 hk1 9 (by decide) w_f_RX12_118 rfl rfl dX12_bounded_34 ?_
    refine g_iconst X (v := 5) dX12_bounded_37 (by decide) ?_
    refine g_icmp_ne X 45 dX12_bounded_38 (by decide) (fun hq => ?_) (fun hq => ?_)
    · have hf := zneg hq hf
      refine g_aload_n X 0 dX12_bounded_45 rfl ?_
      refine g_get X zf12 hk1 12 (by decide) w_f_RX12_144 rfl rfl dX12_bounded_46 ?_
      obtain ⟨rfl, rfl⟩ := zsm hf
      exact g_iret X hr dX12_bounded_49
    · have hf := zpos hq hf
      refine g_iload_n X 1 dX12_bounded_41 rfl ?_
      refine g_goto X 49 dX12_bounded_42 (by decide) ?_
      obtain ⟨rfl, rfl⟩ := zsm hf
      exact g_iret X hr dX12_bounded_49
  refine g_icmp_eq X 16 dX12_bounded_5 (by decide) (fun hq => ?_) (fun hq => ?_)
  · have hf := zpos hq hf
    refine g_aload_n X 0 dX12_bounded_16 rfl ?_
    refine g_get X zf12 hk1 12 (by decide) w_f_RX12_144 rfl rfl dX12_bounded_17 ?_
    refine g_iload_n X 1 dX12_bounded_20 rfl ?_
    refine g_iload_n X 2 dX12_bounded_21 rfl ?_
    obtain ⟨v3, h2, hch2, hf⟩ := zc2_e hf
    refine g_callS X 3 (sX12_in hch2) ysX12_in w_ml_RX12_168 w_static_X12_in w_ini_RX12 w_code_X12_in (by decide) rfl (st := []) rfl rfl (Nat.le_of_ble_eq_true rfl) dX12_bounded_22 ?_
    refine g_if_ne X 33 dX12_bounded_25 (by decide) (fun hq => ?_) (fun hq => ?_)
    · have hf := zneg hq hf
      refine g_sub [0, 1] rfl ?_
      exact hJ33 _ hf
    · have hf := zpos hq hf
      refine g_aload_n X 0 dX12_bounded_28 rfl ?_
      refine g_iconst X (v := 4) dX12_bounded_29 (by decide) ?_
      obtain ⟨h4, hch4, hf⟩ := zbd hf
      refine g_callV X 1 (sX12_flaw hch4) zf12 hk1 ydX12_flaw w_ml_RX12_164 w_instanceMethod_X12_flaw w_sel_X12_flaw w_ini_RX12 w_code_X12_flaw (by decide) rfl (st := []) rfl rfl (Nat.le_of_ble_eq_true rfl) dX12_bounded_30 ?_
      refine g_sub [0, 1] rfl ?_
      exact hJ33 _ hf
  · have hf := zneg hq hf
    refine g_aload_n X 0 dX12_bounded_8 rfl ?_
    refine g_iconst X (v := 1) dX12_bounded_9 (by decide) ?_
    obtain ⟨h5, hch5, hf⟩ := zbd hf
    refine g_callV X 1 (sX12_flaw hch5) zf12 hk1 ydX12_flaw w_ml_RX12_164 w_instanceMethod_X12_flaw w_sel_X12_flaw w_ini_RX12 w_code_X12_flaw (by decide) rfl (st := []) rfl rfl (Nat.le_of_ble_eq_true rfl) dX12_bounded_10 ?_
    refine g_goto X 33 dX12_bounded_13 (by decide) ?_
    refine g_sub [0, 1] rfl ?_
    exact hJ33 _ hf

set_option maxHeartbeats 4000000 in
set_option maxRecDepth 100000 in
theorem sX12_begins {l : Launch} {D : va_G} {cA : Nat → ClassId} {base : Nat} {sA : Nat → Nat} {r0 : Nat} {x1 : Int32} {x2 : Int32} {h hE : Zh} (hf : fX12_begins r0 x1 x2 h = some hE) : zC l yX12_begins cX12_begins 3 none 2 43 D cA base sA [.ref (base + r0), .int x1, .int x2] h none hE := by
  refine g_entry RX12 (by decide) rfl (Nat.le_of_ble_eq_true rfl) ?_
  intro p e s m args below meth c X hr
  unfold fX12_begins at hf
  have hf := zlet_n (x := h) rfl hf
  show zG p l e { frames := 2, cells := 0, slots := 0, locals := 43 } s m args below meth c (MQ below (zQ D cA base h hE none) args s 0 0 (zA base)) 3 D cA base h 0 [(0, .ref (base + r0)), (1, .int x1), (2, .int x2)] [] h
  refine g_iload_n X 1 dX12_begins_0 rfl ?_
  refine g_iload_n X 2 dX12_begins_1 rfl ?_
  have hJ10 : ∀  (h_10 : Zh), jX12_begins_10 h r0 h_10 = some hE → zG p l e { frames := 2, cells := 0, slots := 0, locals := 43 } s m args below meth c (MQ below (zQ D cA base h hE none) args s 0 0 (zA base)) 3 D cA base h 10 [(0, .ref (base + r0))] [] h_10 := by
    intro  h_10 hf
    unfold jX12_begins_10 at hf
    refine g_aload_n X 0 dX12_begins_10 rfl ?_
    obtain ⟨hk1, hf⟩ := zite hf
    obtain ⟨r_2, hr_2, hf⟩ := zbd hf
    refine g_get X zf12 hk1 4 (by decide) w_f_RX12_190 rfl (zfv_r hr_2 rfl) dX12_begins_11 ?_
    obtain ⟨hk3, hf⟩ := zite hf
    refine g_getN X zf11 hk3 0 (by decide) w_fn_RX12_194 rfl rfl dX12_begins_14 ?_
    refine g_if_ne X 26 dX12_begins_17 (by decide) (fun hq => ?_) (fun hq => ?_)
    · have hf := zneg hq hf
      refine g_aload_n X 0 dX12_begins_26 rfl ?_
      obtain ⟨h4, hch4, hf⟩ := zbd hf
      refine g_callV X 0 (sX12_goesOn hch4) zf12 hk1 ydX12_goesOn w_ml_RX12_161 w_instanceMethod_X12_goesOn w_sel_X12_goesOn w_ini_RX12 w_code_X12_goesOn (by decide) rfl (st := []) rfl rfl (Nat.le_of_ble_eq_true rfl) dX12_begins_27 ?_
      cases hf
      exact g_vret X hr dX12_begins_30
    · have hf := zpos hq hf
      refine g_aload_n X 0 dX12_begins_20 rfl ?_
      refine g_bipush X (v := 6) dX12_begins_21 (by decide) ?_
      obtain ⟨h5, hch5, hf⟩ := zbd hf
      refine g_callV X 1 (sX12_flaw hch5) zf12 hk1 ydX12_flaw w_ml_RX12_164 w_instanceMethod_X12_flaw w_sel_X12_flaw w_ini_RX12 w_code_X12_flaw (by decide) rfl (st := []) rfl rfl (Nat.le_of_ble_eq_true rfl) dX12_begins_23 ?_
      refine g_aload_n X 0 dX12_begins_26 rfl ?_
      obtain ⟨h6, hch6, hf⟩ := zbd hf
      refine g_callV X 0 (sX12_goesOn hch6) zf12 hk1 ydX12_goesOn w_ml_RX12_161 w_instanceMethod_X12_goesOn w_sel_X12_goesOn w_ini_RX12 w_code_X12_goesOn (by decide) rfl (st := []) rfl rfl (Nat.le_of_ble_eq_true rfl) dX12_begins_27 ?_
      cases hf
      exact g_vret X hr dX12_begins_30
  refine g_icmp_ne X 10 dX12_begins_2 (by decide) (fun hq => ?_) (fun hq => ?_)
  · have hf := zneg hq hf
    refine g_sub [0] rfl ?_
    exact hJ10 _ hf
  · have hf := zpos hq hf
    refine g_aload_n X 0 dX12_begins_5 rfl ?_
    refine g_iconst X (v := 5) dX12_begins_6 (by decide) ?_
    obtain ⟨hk7, hf⟩ := zite hf
    obtain ⟨h8, hch8, hf⟩ := zbd hf
    refine g_callV X 1 (sX12_flaw hch8) zf12 hk7 ydX12_flaw w_ml_RX12_164 w_instanceMethod_X12_flaw w_sel_X12_flaw w_ini_RX12 w_code_X12_flaw (by decide) rfl (st := []) rfl rfl (Nat.le_of_ble_eq_true rfl) dX12_begins_7 ?_
    refine g_sub [0] rfl ?_
    exact hJ10 _ hf

set_option maxHeartbeats 4000000 in
set_option maxRecDepth 100000 in
theorem sX12_readUnlike {l : Launch} {D : va_G} {cA : Nat → ClassId} {base : Nat} {sA : Nat → Nat} {r0 : Nat} {r1 : Nat} {x2 : Int32} {x3 : Int32} {x4 : Int32} {h hE : Zh} (hf : fX12_readUnlike r0 r1 x2 x3 x4 h = some hE) : zC l yX12_readUnlike cX12_readUnlike 8 none 3 64 D cA base sA [.ref (base + r0), .ref (base + r1), .int x2, .int x3, .int x4] h none hE := by
  refine g_entry RX12 (by decide) rfl (Nat.le_of_ble_eq_true rfl) ?_
  intro p e s m args below meth c X hr
  unfold fX12_readUnlike at hf
  have hf := zlet_n (x := h) rfl hf
  show zG p l e { frames := 3, cells := 0, slots := 0, locals := 64 } s m args below meth c (MQ below (zQ D cA base h hE none) args s 0 0 (zA base)) 8 D cA base h 0 [(0, .ref (base + r0)), (1, .ref (base + r1)), (2, .int x2), (3, .int x3), (4, .int x4)] [] h
  refine g_iconst X (v := 0) dX12_readUnlike_0 (by decide) ?_
  refine g_istore X [(5, .int ((0 : Int32))), (0, .ref (base + r0)), (1, .ref (base + r1)), (2, .int x2), (3, .int x3), (4, .int x4)] dX12_readUnlike_1 (by decide) rfl ?_
  refine g_iconst X (v := 0) dX12_readUnlike_3 (by decide) ?_
  refine g_istore X [(6, .int ((0 : Int32))), (5, .int ((0 : Int32))), (0, .ref (base + r0)), (1, .ref (base + r1)), (2, .int x2), (3, .int x3), (4, .int x4)] dX12_readUnlike_4 (by decide) rfl ?_
  refine g_sub [2, 3, 4, 5, 6, 1, 0] rfl ?_
  obtain ⟨qq, hlp, hf⟩ := zbd hf
  refine lp_snd (body := (fun q : Int32 × Int32 × Zh => bX12_readUnlike_6 h r0 r1 x2 x3 x4 q.1 q.2.1 q.2.2)) (P := (fun q : Int32 × Int32 × Zh => zG p l e { frames := 3, cells := 0, slots := 0, locals := 64 } s m args below meth c (MQ below (zQ D cA base h hE none) args s 0 0 (zA base)) 8 D cA base h 6 [(0, .ref (base + r0)), (1, .ref (base + r1)), (2, .int x2), (3, .int x3), (4, .int x4), (5, .int q.1), (6, .int q.2.1)] [] q.2.2)) (E := (fun (en : Nat) (q : Int32 × Int32 × Zh) => zG p l e { frames := 3, cells := 0, slots := 0, locals := 64 } s m args below meth c (MQ below (zQ D cA base h hE none) args s 0 0 (zA base)) 8 D cA base h 85 [] [] q.2.2)) ?_ zB ((0 : Int32), ((0 : Int32), h)) qq.1 qq.2 hlp ?_
  · intro q e_6 q_6 hf hc0 hc1
    obtain ⟨x5_6, x6_6, h_6⟩ := q
    have hf : bX12_readUnlike_6 h r0 r1 x2 x3 x4 x5_6 x6_6 h_6 = some (e_6, q_6) := hf
    unfold bX12_readUnlike_6 at hf
    show zG p l e { frames := 3, cells := 0, slots := 0, locals := 64 } s m args below meth c (MQ below (zQ D cA base h hE none) args s 0 0 (zA base)) 8 D cA base h 6 [(0, .ref (base + r0)), (1, .ref (base + r1)), (2, .int x2), (3, .int x3), (4, .int x4), (5, .int x5_6), (6, .int x6_6)] [] h_6
    refine g_iload X 6 dX12_readUnlike_6 rfl ?_
    refine g_iload_n X 3 dX12_readUnlike_8 rfl ?_
    refine g_icmp_ge X 85 dX12_readUnlike_9 (by decide) (fun hq => ?_) (fun hq => ?_)
    · have hf := zpos hq hf
      cases hf
      have hc1 := hc1 (by decide)
      exact g_sub [] rfl hc1
    · have hf := zneg hq hf
      refine g_aload_n X 0 dX12_readUnlike_12 rfl ?_
      obtain ⟨hk1, hf⟩ := zite hf
      refine g_get X zf12 hk1 9 (by decide) w_f_RX12_118 rfl rfl dX12_readUnlike_13 ?_
      refine g_iconst X (v := 5) dX12_readUnlike_16 (by decide) ?_
      refine g_icmp_eq X 85 dX12_readUnlike_17 (by decide) (fun hq => ?_) (fun hq => ?_)
      · have hf := zpos hq hf
        cases hf
        have hc1 := hc1 (by decide)
        exact g_sub [] rfl hc1
      · have hf := zneg hq hf
        refine g_iload X 6 dX12_readUnlike_20 rfl ?_
        have hJ31 : ∀ (x5_31 : Int32) (x6_31 : Int32) (h_31 : Zh), jX12_readUnlike_31 h r0 r1 x2 x3 x4 x5_31 x6_31 h_31 = some (e_6, q_6) → zG p l e { frames := 3, cells := 0, slots := 0, locals := 64 } s m args below meth c (MQ below (zQ D cA base h hE none) args s 0 0 (zA base)) 8 D cA base h 31 [(0, .ref (base + r0)), (1, .ref (base + r1)), (2, .int x2), (3, .int x3), (4, .int x4), (5, .int x5_31), (6, .int x6_31)] [] h_31 := by
          intro x5_31 x6_31 h_31 hf
          unfold jX12_readUnlike_31 at hf
          refine g_aload_n X 0 dX12_readUnlike_31 rfl ?_
          refine g_iconst X (v := 0) dX12_readUnlike_32 (by decide) ?_
          refine g_iload X 4 dX12_readUnlike_33 rfl ?_
          refine g_iconst X (v := 1) dX12_readUnlike_35 (by decide) ?_
          refine g_isub X dX12_readUnlike_36 ?_
          obtain ⟨v3, h2, hch2, hf⟩ := zc2_e hf
          refine g_callV X 2 (sX12_bounded hch2) zf12 hk1 ydX12_bounded w_ml_RX12_176 w_instanceMethod_X12_bounded w_sel_X12_bounded w_ini_RX12 w_code_X12_bounded (by decide) rfl (st := []) rfl rfl (Nat.le_of_ble_eq_true rfl) dX12_readUnlike_37 ?_
          refine g_istore X [(7, .int v3), (0, .ref (base + r0)), (1, .ref (base + r1)), (2, .int x2), (3, .int x3), (4, .int x4), (5, .int x5_31), (6, .int x6_31)] dX12_readUnlike_40 (by decide) rfl ?_
          refine g_iload X 6 dX12_readUnlike_42 rfl ?_
          refine g_iload X 0 dX12_readUnlike_44 rfl ?_
          refine g_ishr X dX12_readUnlike_46 ?_
          refine g_iconst X (v := 1) dX12_readUnlike_47 (by decide) ?_
          refine g_iand X dX12_readUnlike_48 ?_
          refine g_iconst X (v := 1) dX12_readUnlike_49 (by decide) ?_
          have hJ58 : ∀ (x5_58 : Int32) (x6_58 : Int32) (x7_58 : Int32) (h_58 : Zh), jX12_readUnlike_58 h r0 r1 x2 x3 x4 x5_58 x6_58 x7_58 h_58 = some (e_6, q_6) → zG p l e { frames := 3, cells := 0, slots := 0, locals := 64 } s m args below meth c (MQ below (zQ D cA base h hE none) args s 0 0 (zA base)) 8 D cA base h 58 [(0, .ref (base + r0)), (1, .ref (base + r1)), (2, .int x2), (3, .int x3), (4, .int x4), (5, .int x5_58), (6, .int x6_58), (7, .int x7_58)] [] h_58 := by
            intro x5_58 x6_58 x7_58 h_58 hf
            unfold jX12_readUnlike_58 at hf
            refine g_aload_n X 0 dX12_readUnlike_58 rfl ?_
            obtain ⟨h4, hch4, hf⟩ := zbd hf
            refine g_callV X 0 (sX12_goesOn hch4) zf12 hk1 ydX12_goesOn w_ml_RX12_161 w_instanceMethod_X12_goesOn w_sel_X12_goesOn w_ini_RX12 w_code_X12_goesOn (by decide) rfl (st := []) rfl rfl (Nat.le_of_ble_eq_true rfl) dX12_readUnlike_59 ?_
            refine g_iload X 5 dX12_readUnlike_62 rfl ?_
            refine g_iconst X (v := 1) dX12_readUnlike_64 (by decide) ?_
            refine g_iload X 7 dX12_readUnlike_65 rfl ?_
            refine g_ishl X dX12_readUnlike_67 ?_
            refine g_ior X dX12_readUnlike_68 ?_
            refine g_topi (fun y5 ey5 => ?_)
            have hf := zlet_n ey5 hf
            refine g_istore X [(5, .int y5), (0, .ref (base + r0)), (1, .ref (base + r1)), (2, .int x2), (3, .int x3), (4, .int x4), (6, .int x6_58), (7, .int x7_58)] dX12_readUnlike_69 (by decide) rfl ?_
            refine g_aload_n X 2 dX12_readUnlike_71 rfl ?_
            refine g_iload_n X 3 dX12_readUnlike_72 rfl ?_
            refine g_iload X 6 dX12_readUnlike_73 rfl ?_
            refine g_iadd X dX12_readUnlike_75 ?_
            refine g_iload X 7 dX12_readUnlike_76 rfl ?_
            obtain ⟨hk6, hf⟩ := zite hf
            obtain ⟨hi7, hf⟩ := zite hf
            refine g_iast X hk6 hi7 dX12_readUnlike_78 ?_
            refine g_hp (fun h8 eh8 => ?_)
            have hf := zlet_n eh8 hf
            obtain ⟨y9, ey9⟩ : ∃ y : Int32, y = x6_58 + (1 : Int32) := ⟨_, rfl⟩
            have hf := zlet_n ey9 hf
            refine g_iinc X (j := 6) [(6, .int y9), (5, .int y5), (0, .ref (base + r0)), (1, .ref (base + r1)), (2, .int x2), (3, .int x3), (4, .int x4), (7, .int x7_58)] dX12_readUnlike_79 rfl (by rw [ey9]; rfl) (by decide) rfl ?_
            refine g_goto X 6 dX12_readUnlike_82 (by decide) ?_
            cases hf
            exact g_sub [2, 3, 4, 5, 6, 1, 0] rfl (hc0 rfl)
          refine g_icmp_ne X 58 dX12_readUnlike_50 (by decide) (fun hq => ?_) (fun hq => ?_)
          · have hf := zneg hq hf
            refine g_sub [1, 2, 3, 4, 5, 6, 7, 0] rfl ?_
            exact hJ58 _ _ _ _ hf
          · have hf := zpos hq hf
            refine g_aload_n X 1 dX12_readUnlike_53 rfl ?_
            refine g_iconst X (v := 3) dX12_readUnlike_54 (by decide) ?_
            obtain ⟨h10, hch10, hf⟩ := zbd hf
            refine g_callV X 1 (sX12_flaw hch10) zf12 hk1 ydX12_flaw w_ml_RX12_164 w_instanceMethod_X12_flaw w_sel_X12_flaw w_ini_RX12 w_code_X12_flaw (by decide) rfl (st := []) rfl rfl (Nat.le_of_ble_eq_true rfl) dX12_readUnlike_55 ?_
            refine g_sub [1, 2, 3, 4, 5, 6, 7, 0] rfl ?_
            exact hJ58 _ _ _ _ hf
        refine g_if_le X 31 dX12_readUnlike_22 (by decide) (fun hq => ?_) (fun hq => ?_)
        · have hf := zpos hq hf
          refine g_sub [0, 1, 2, 3, 4, 5, 6] rfl ?_
          exact hJ31 _ _ _ hf
        · have hf := zneg hq hf
          refine g_aload_n X 0 dX12_readUnlike_25 rfl ?_
          refine g_bipush X (v := 44) dX12_readUnlike_26 (by decide) ?_
          obtain ⟨h11, hch11, hf⟩ := zbd hf
          refine g_callV X 1 (sX12_needsSign hch11) zf12 hk1 ydX12_needsSign w_ml_RX12_302 w_instanceMethod_X12_needsSign w_sel_X12_needsSign w_ini_RX12 w_code_X12_needsSign (by decide) rfl (st := []) rfl rfl (Nat.le_of_ble_eq_true rfl) dX12_readUnlike_28 ?_
          refine g_sub [0, 1, 2, 3, 4, 5, 6] rfl ?_
          exact hJ31 _ _ _ hf
  · obtain ⟨ee, x5_k6, x6_k6, h_k6⟩ := qq
    have hf : kX12_readUnlike_6 h ee x5_k6 x6_k6 h_k6 = some hE := hf
    unfold kX12_readUnlike_6 at hf
    show zG p l e { frames := 3, cells := 0, slots := 0, locals := 64 } s m args below meth c (MQ below (zQ D cA base h hE none) args s 0 0 (zA base)) 8 D cA base h 85 [] [] h_k6
    cases hf
    exact g_vret X hr dX12_readUnlike_85

set_option maxHeartbeats 4000000 in
set_option maxRecDepth 100000 in
theorem sX12_readPlaces {l : Launch} {D : va_G} {cA : Nat → ClassId} {base : Nat} {sA : Nat → Nat} {r0 : Nat} {h hE : Zh} {rE : Int32} (hf : fX12_readPlaces r0 h = some (rE, hE)) : zC l yX12_readPlaces cX12_readPlaces 4 (some .int) 3 65 D cA base sA [.ref (base + r0)] h (some (.int rE)) hE := by
  refine g_entry RX12 (by decide) rfl (Nat.le_of_ble_eq_true rfl) ?_
  intro p e s m args below meth c X hr
  unfold fX12_readPlaces at hf
  have hf := zlet_n (x := h) rfl hf
  show zG p l e { frames := 3, cells := 0, slots := 0, locals := 65 } s m args below meth c (MQ below (zQ D cA base h hE (some (.int rE))) args s 0 0 (zA base)) 4 D cA base h 0 [(0, .ref (base + r0))] [] h
  refine g_iconst X (v := 0) dX12_readPlaces_0 (by decide) ?_
  refine g_istore_n X [(1, .int ((0 : Int32))), (0, .ref (base + r0))] dX12_readPlaces_1 (by decide) rfl ?_
  refine g_iconst X (v := 1) dX12_readPlaces_2 (by decide) ?_
  refine g_istore_n X [(2, .int ((1 : Int32))), (1, .int ((0 : Int32))), (0, .ref (base + r0))] dX12_readPlaces_3 (by decide) rfl ?_
  refine g_sub [2, 1, 0] rfl ?_
  obtain ⟨qq, hlp, hf⟩ := zbd hf
  refine lp_snd (body := (fun q : Int32 × Int32 × Zh => bX12_readPlaces_4 h r0 q.1 q.2.1 q.2.2)) (P := (fun q : Int32 × Int32 × Zh => zG p l e { frames := 3, cells := 0, slots := 0, locals := 65 } s m args below meth c (MQ below (zQ D cA base h hE (some (.int rE))) args s 0 0 (zA base)) 4 D cA base h 4 [(0, .ref (base + r0)), (1, .int q.1), (2, .int q.2.1)] [] q.2.2)) (E := (fun (en : Nat) (q : Int32 × Int32 × Zh) => zG p l e { frames := 3, cells := 0, slots := 0, locals := 65 } s m args below meth c (MQ below (zQ D cA base h hE (some (.int rE))) args s 0 0 (zA base)) 4 D cA base h 65 [(1, .int q.1)] [] q.2.2)) ?_ zB ((0 : Int32), ((1 : Int32), h)) qq.1 qq.2 hlp ?_
  · intro q e_4 q_4 hf hc0 hc1
    obtain ⟨x1_4, x2_4, h_4⟩ := q
    have hf : bX12_readPlaces_4 h r0 x1_4 x2_4 h_4 = some (e_4, q_4) := hf
    unfold bX12_readPlaces_4 at hf
    show zG p l e { frames := 3, cells := 0, slots := 0, locals := 65 } s m args below meth c (MQ below (zQ D cA base h hE (some (.int rE))) args s 0 0 (zA base)) 4 D cA base h 4 [(0, .ref (base + r0)), (1, .int x1_4), (2, .int x2_4)] [] h_4
    refine g_iload_n X 2 dX12_readPlaces_4 rfl ?_
    refine g_if_eq X 65 dX12_readPlaces_5 (by decide) (fun hq => ?_) (fun hq => ?_)
    · have hf := zpos hq hf
      cases hf
      have hc1 := hc1 (by decide)
      exact g_sub [1] rfl hc1
    · have hf := zneg hq hf
      refine g_aload_n X 0 dX12_readPlaces_8 rfl ?_
      obtain ⟨hk1, hf⟩ := zite hf
      refine g_get X zf12 hk1 9 (by decide) w_f_RX12_118 rfl rfl dX12_readPlaces_9 ?_
      refine g_iconst X (v := 5) dX12_readPlaces_12 (by decide) ?_
      refine g_icmp_eq X 65 dX12_readPlaces_13 (by decide) (fun hq => ?_) (fun hq => ?_)
      · have hf := zpos hq hf
        cases hf
        have hc1 := hc1 (by decide)
        exact g_sub [1] rfl hc1
      · have hf := zneg hq hf
        refine g_aload_n X 0 dX12_readPlaces_16 rfl ?_
        refine g_iconst X (v := 0) dX12_readPlaces_17 (by decide) ?_
        refine g_aload_n X 0 dX12_readPlaces_18 rfl ?_
        obtain ⟨r_2, hr_2, hf⟩ := zbd hf
        refine g_get X zf12 hk1 4 (by decide) w_f_RX12_190 rfl (zfv_r hr_2 rfl) dX12_readPlaces_19 ?_
        obtain ⟨hk3, hf⟩ := zite hf
        refine g_getN X zf11 hk3 4 (by decide) w_fn_RX12_257 rfl rfl dX12_readPlaces_22 ?_
        refine g_iconst X (v := 1) dX12_readPlaces_25 (by decide) ?_
        refine g_isub X dX12_readPlaces_26 ?_
        obtain ⟨v5, h4, hch4, hf⟩ := zc2_e hf
        refine g_callV X 2 (sX12_bounded hch4) zf12 hk1 ydX12_bounded w_ml_RX12_176 w_instanceMethod_X12_bounded w_sel_X12_bounded w_ini_RX12 w_code_X12_bounded (by decide) rfl (st := []) rfl rfl (Nat.le_of_ble_eq_true rfl) dX12_readPlaces_27 ?_
        refine g_istore_n X [(3, .int v5), (0, .ref (base + r0)), (1, .int x1_4), (2, .int x2_4)] dX12_readPlaces_30 (by decide) rfl ?_
        refine g_iload_n X 2 dX12_readPlaces_31 rfl ?_
        refine g_iload_n X 0 dX12_readPlaces_32 rfl ?_
        refine g_ishr X dX12_readPlaces_33 ?_
        refine g_iconst X (v := 1) dX12_readPlaces_34 (by decide) ?_
        refine g_iand X dX12_readPlaces_35 ?_
        refine g_iconst X (v := 1) dX12_readPlaces_36 (by decide) ?_
        have hJ45 : ∀ (x1_45 : Int32) (x3_45 : Int32) (h_45 : Zh), jX12_readPlaces_45 h r0 x1_45 x3_45 h_45 = some (e_4, q_4) → zG p l e { frames := 3, cells := 0, slots := 0, locals := 65 } s m args below meth c (MQ below (zQ D cA base h hE (some (.int rE))) args s 0 0 (zA base)) 4 D cA base h 45 [(0, .ref (base + r0)), (1, .int x1_45), (3, .int x3_45)] [] h_45 := by
          intro x1_45 x3_45 h_45 hf
          unfold jX12_readPlaces_45 at hf
          refine g_aload_n X 0 dX12_readPlaces_45 rfl ?_
          obtain ⟨h6, hch6, hf⟩ := zbd hf
          refine g_callV X 0 (sX12_goesOn hch6) zf12 hk1 ydX12_goesOn w_ml_RX12_161 w_instanceMethod_X12_goesOn w_sel_X12_goesOn w_ini_RX12 w_code_X12_goesOn (by decide) rfl (st := []) rfl rfl (Nat.le_of_ble_eq_true rfl) dX12_readPlaces_46 ?_
          refine g_iload_n X 1 dX12_readPlaces_49 rfl ?_
          refine g_iconst X (v := 1) dX12_readPlaces_50 (by decide) ?_
          refine g_iload_n X 2 dX12_readPlaces_51 rfl ?_
          refine g_ishl X dX12_readPlaces_52 ?_
          refine g_ior X dX12_readPlaces_53 ?_
          refine g_topi (fun y7 ey7 => ?_)
          have hf := zlet_n ey7 hf
          refine g_istore_n X [(1, .int y7), (0, .ref (base + r0)), (3, .int x3_45)] dX12_readPlaces_54 (by decide) rfl ?_
          refine g_aload_n X 1 dX12_readPlaces_55 rfl ?_
          refine g_bipush X (v := 44) dX12_readPlaces_56 (by decide) ?_
          obtain ⟨v9, h8, hch8, hf⟩ := zc2_e hf
          refine g_callV X 1 (sX12_eatsSign hch8) zf12 hk1 ydX12_eatsSign w_ml_RX12_201 w_instanceMethod_X12_eatsSign w_sel_X12_eatsSign w_ini_RX12 w_code_X12_eatsSign (by decide) rfl (st := []) rfl rfl (Nat.le_of_ble_eq_true rfl) dX12_readPlaces_58 ?_
          refine g_istore_n X [(2, .int v9), (1, .int y7), (0, .ref (base + r0)), (3, .int x3_45)] dX12_readPlaces_61 (by decide) rfl ?_
          refine g_goto X 4 dX12_readPlaces_62 (by decide) ?_
          cases hf
          exact g_sub [2, 1, 0] rfl (hc0 rfl)
        refine g_icmp_ne X 45 dX12_readPlaces_37 (by decide) (fun hq => ?_) (fun hq => ?_)
        · have hf := zneg hq hf
          refine g_sub [1, 2, 0] rfl ?_
          exact hJ45 _ _ _ hf
        · have hf := zpos hq hf
          refine g_aload_n X 1 dX12_readPlaces_40 rfl ?_
          refine g_iconst X (v := 3) dX12_readPlaces_41 (by decide) ?_
          obtain ⟨h10, hch10, hf⟩ := zbd hf
          refine g_callV X 1 (sX12_flaw hch10) zf12 hk1 ydX12_flaw w_ml_RX12_164 w_instanceMethod_X12_flaw w_sel_X12_flaw w_ini_RX12 w_code_X12_flaw (by decide) rfl (st := []) rfl rfl (Nat.le_of_ble_eq_true rfl) dX12_readPlaces_42 ?_
          refine g_sub [1, 2, 0] rfl ?_
          exact hJ45 _ _ _ hf
  · obtain ⟨ee, x1_k4, x2_k4, h_k4⟩ := qq
    have hf : kX12_readPlaces_4 h ee x1_k4 x2_k4 h_k4 = some (rE, hE) := hf
    unfold kX12_readPlaces_4 at hf
    show zG p l e { frames := 3, cells := 0, slots := 0, locals := 65 } s m args below meth c (MQ below (zQ D cA base h hE (some (.int rE))) args s 0 0 (zA base)) 4 D cA base h 65 [(1, .int x1_k4)] [] h_k4
    refine g_iload_n X 0 dX12_readPlaces_65 rfl ?_
    obtain ⟨rfl, rfl⟩ := zsm hf
    exact g_iret X hr dX12_readPlaces_66

set_option maxHeartbeats 4000000 in
set_option maxRecDepth 100000 in
theorem sX12_feed {l : Launch} {D : va_G} {cA : Nat → ClassId} {base : Nat} {sA : Nat → Nat} {r0 : Nat} {x1 : Int32} {x2 : Int32} {x3 : Int32} {x4 : Int32} {x5 : Int32} {h hE : Zh} {rE : Int32} (hf : fX12_feed r0 x1 x2 x3 x4 x5 h = some (rE, hE)) : zC l yX12_feed cX12_feed 8 (some .int) 0 0 D cA base sA [.ref (base + r0), .int x1, .int x2, .int x3, .int x4, .int x5] h (some (.int rE)) hE := by
  refine g_entry RX12 (by decide) rfl (Nat.le_of_ble_eq_true rfl) ?_
  intro p e s m args below meth c X hr
  unfold fX12_feed at hf
  have hf := zlet_n (x := h) rfl hf
  show zG p l e { frames := 0, cells := 0, slots := 0, locals := 0 } s m args below meth c (MQ below (zQ D cA base h hE (some (.int rE))) args s 0 0 (zA base)) 8 D cA base h 0 [(0, .ref (base + r0)), (1, .int x1), (2, .int x2), (3, .int x3), (4, .int x4), (5, .int x5)] [] h
  refine g_aload_n X 0 dX12_feed_0 rfl ?_
  refine g_iconst X (v := 0) dX12_feed_1 (by decide) ?_
  obtain ⟨hk1, hf⟩ := zite hf
  refine g_putI X zf12 hk1 0 (by decide) w_f_RX12_86 rfl rfl rfl dX12_feed_2 ?_
  refine g_hp (fun h2 eh2 => ?_)
  have hf := zlet_n eh2 hf
  refine g_aload_n X 0 dX12_feed_5 rfl ?_
  refine g_get X zf12 hk1 6 (by decide) w_f_RX12_322 rfl rfl dX12_feed_6 ?_
  refine g_bipush X (v := 20) dX12_feed_9 (by decide) ?_
  refine g_iadd X dX12_feed_11 ?_
  refine g_sipush X (v := 900) dX12_feed_12 (by decide) ?_
  refine g_icmp_le X 20 dX12_feed_15 (by decide) (fun hq => ?_) (fun hq => ?_)
  · have hf := zpos hq hf
    refine g_iconst X (v := 0) dX12_feed_20 (by decide) ?_
    refine g_istore X [(6, .int ((0 : Int32))), (0, .ref (base + r0)), (1, .int x1), (2, .int x2), (3, .int x3), (4, .int x4), (5, .int x5)] dX12_feed_21 (by decide) rfl ?_
    refine g_sub [1, 2, 3, 4, 5, 6, 0] rfl ?_
    obtain ⟨qq, hlp, hf⟩ := zbd hf
    refine lp_snd (body := (fun q : Int32 × Zh => bX12_feed_23 h r0 x1 x2 x3 x4 x5 q.1 q.2)) (P := (fun q : Int32 × Zh => zG p l e { frames := 0, cells := 0, slots := 0, locals := 0 } s m args below meth c (MQ below (zQ D cA base h hE (some (.int rE))) args s 0 0 (zA base)) 8 D cA base h 23 [(0, .ref (base + r0)), (1, .int x1), (2, .int x2), (3, .int x3), (4, .int x4), (5, .int x5), (6, .int q.1)] [] q.2)) (E := (fun (en : Nat) (q : Int32 × Zh) => zG p l e { frames := 0, cells := 0, slots := 0, locals := 0 } s m args below meth c (MQ below (zQ D cA base h hE (some (.int rE))) args s 0 0 (zA base)) 8 D cA base h 117 [(0, .ref (base + r0))] [] q.2)) ?_ zB ((0 : Int32), h2) qq.1 qq.2 hlp ?_
    · intro q e_23 q_23 hf hc0 hc1
      obtain ⟨x6_23, h_23⟩ := q
      have hf : bX12_feed_23 h r0 x1 x2 x3 x4 x5 x6_23 h_23 = some (e_23, q_23) := hf
      unfold bX12_feed_23 at hf
      show zG p l e { frames := 0, cells := 0, slots := 0, locals := 0 } s m args below meth c (MQ below (zQ D cA base h hE (some (.int rE))) args s 0 0 (zA base)) 8 D cA base h 23 [(0, .ref (base + r0)), (1, .int x1), (2, .int x2), (3, .int x3), (4, .int x4), (5, .int x5), (6, .int x6_23)] [] h_23
      refine g_iload X 6 dX12_feed_23 rfl ?_
      refine g_bipush X (v := 20) dX12_feed_25 (by decide) ?_
      refine g_icmp_ge X 117 dX12_feed_27 (by decide) (fun hq => ?_) (fun hq => ?_)
      · have hf := zpos hq hf
        cases hf
        have hc1 := hc1 (by decide)
        exact g_sub [0] rfl hc1
      · have hf := zneg hq hf
        refine g_iload X 6 dX12_feed_30 rfl ?_
        refine g_iconst X (v := 4) dX12_feed_32 (by decide) ?_
        have hJ76 : ∀ (x6_76 : Int32) (t0_76 : Int32) (h_76 : Zh), jX12_feed_76 h r0 x1 x2 x3 x4 x5 x6_76 t0_76 h_76 = some (e_23, q_23) → zG p l e { frames := 0, cells := 0, slots := 0, locals := 0 } s m args below meth c (MQ below (zQ D cA base h hE (some (.int rE))) args s 0 0 (zA base)) 8 D cA base h 76 [(0, .ref (base + r0)), (1, .int x1), (2, .int x2), (3, .int x3), (4, .int x4), (5, .int x5), (6, .int x6_76)] [.int t0_76] h_76 := by
          intro x6_76 t0_76 h_76 hf
          unfold jX12_feed_76 at hf
          refine g_istore X [(7, .int t0_76), (0, .ref (base + r0)), (1, .int x1), (2, .int x2), (3, .int x3), (4, .int x4), (5, .int x5), (6, .int x6_76)] dX12_feed_76 (by decide) rfl ?_
          refine g_aload_n X 1 dX12_feed_78 rfl ?_
          obtain ⟨r_3, hr_3, hf⟩ := zbd hf
          refine g_get X zf12 hk1 5 (by decide) w_f_RX12_13 rfl (zfv_r hr_3 rfl) dX12_feed_79 ?_
          refine g_aload_n X 1 dX12_feed_82 rfl ?_
          refine g_get X zf12 hk1 6 (by decide) w_f_RX12_322 rfl rfl dX12_feed_83 ?_
          refine g_iload X 0 dX12_feed_86 rfl ?_
          refine g_bipush X (v := 24) dX12_feed_88 (by decide) ?_
          refine g_bipush X (v := 8) dX12_feed_90 (by decide) ?_
          refine g_iload X 7 dX12_feed_92 rfl ?_
          refine g_iconst X (v := 4) dX12_feed_94 (by decide) ?_
          obtain ⟨hn4, hf⟩ := zite hf
          refine g_irem X hn4 dX12_feed_95 ?_
          refine g_imul X dX12_feed_96 ?_
          refine g_isub X dX12_feed_97 ?_
          refine g_ishr X dX12_feed_98 ?_
          refine g_i2b X dX12_feed_99 ?_
          obtain ⟨hk5, hf⟩ := zite hf
          obtain ⟨hi6, hf⟩ := zite hf
          refine g_bast X hk5 hi6 dX12_feed_100 ?_
          refine g_hp (fun h7 eh7 => ?_)
          have hf := zlet_n eh7 hf
          refine g_aload_n X 1 dX12_feed_101 rfl ?_
          refine g_dup X dX12_feed_102 rfl ?_
          refine g_get X zf12 hk1 6 (by decide) w_f_RX12_322 rfl rfl dX12_feed_103 ?_
          refine g_iconst X (v := 1) dX12_feed_106 (by decide) ?_
          refine g_iadd X dX12_feed_107 ?_
          refine g_putI X zf12 hk1 6 (by decide) w_f_RX12_322 rfl rfl rfl dX12_feed_108 ?_
          refine g_hp (fun h8 eh8 => ?_)
          have hf := zlet_n eh8 hf
          obtain ⟨y9, ey9⟩ : ∃ y : Int32, y = x6_76 + (1 : Int32) := ⟨_, rfl⟩
          have hf := zlet_n ey9 hf
          refine g_iinc X (j := 7) [(6, .int y9), (7, .int t0_76), (0, .ref (base + r0)), (1, .int x1), (2, .int x2), (3, .int x3), (4, .int x4), (5, .int x5)] dX12_feed_111 rfl (by rw [ey9]; rfl) (by decide) rfl ?_
          refine g_goto X 23 dX12_feed_114 (by decide) ?_
          cases hf
          exact g_sub [2, 3, 4, 5, 6, 7, 0] rfl (hc0 rfl)
        refine g_icmp_ge X 40 dX12_feed_33 (by decide) (fun hq => ?_) (fun hq => ?_)
        · have hf := zpos hq hf
          refine g_iload X 6 dX12_feed_40 rfl ?_
          refine g_bipush X (v := 8) dX12_feed_42 (by decide) ?_
          refine g_icmp_ge X 51 dX12_feed_44 (by decide) (fun hq => ?_) (fun hq => ?_)
          · have hf := zpos hq hf
            refine g_iload X 6 dX12_feed_51 rfl ?_
            refine g_bipush X (v := 12) dX12_feed_53 (by decide) ?_
            refine g_icmp_ge X 62 dX12_feed_55 (by decide) (fun hq => ?_) (fun hq => ?_)
            · have hf := zpos hq hf
              refine g_iload X 6 dX12_feed_62 rfl ?_
              refine g_bipush X (v := 16) dX12_feed_64 (by decide) ?_
              refine g_icmp_ge X 74 dX12_feed_66 (by decide) (fun hq => ?_) (fun hq => ?_)
              · have hf := zpos hq hf
                refine g_iload X 5 dX12_feed_74 rfl ?_
                refine g_sub [0, 1, 2, 3, 4, 5, 6] rfl ?_
                exact hJ76 _ _ _ hf
              · have hf := zneg hq hf
                refine g_iload X 4 dX12_feed_69 rfl ?_
                refine g_goto X 76 dX12_feed_71 (by decide) ?_
                refine g_sub [0, 1, 2, 3, 4, 5, 6] rfl ?_
                exact hJ76 _ _ _ hf
            · have hf := zneg hq hf
              refine g_iload_n X 3 dX12_feed_58 rfl ?_
              refine g_goto X 76 dX12_feed_59 (by decide) ?_
              refine g_sub [0, 1, 2, 3, 4, 5, 6] rfl ?_
              exact hJ76 _ _ _ hf
          · have hf := zneg hq hf
            refine g_iload_n X 2 dX12_feed_47 rfl ?_
            refine g_goto X 76 dX12_feed_48 (by decide) ?_
            refine g_sub [0, 1, 2, 3, 4, 5, 6] rfl ?_
            exact hJ76 _ _ _ hf
        · have hf := zneg hq hf
          refine g_iload_n X 1 dX12_feed_36 rfl ?_
          refine g_goto X 76 dX12_feed_37 (by decide) ?_
          refine g_sub [0, 1, 2, 3, 4, 5, 6] rfl ?_
          exact hJ76 _ _ _ hf
    · obtain ⟨ee, x6_k23, h_k23⟩ := qq
      have hf : kX12_feed_23 h r0 ee x6_k23 h_k23 = some (rE, hE) := hf
      unfold kX12_feed_23 at hf
      show zG p l e { frames := 0, cells := 0, slots := 0, locals := 0 } s m args below meth c (MQ below (zQ D cA base h hE (some (.int rE))) args s 0 0 (zA base)) 8 D cA base h 117 [(0, .ref (base + r0))] [] h_k23
      refine g_aload_n X 0 dX12_feed_117 rfl ?_
      refine g_get X zf12 hk1 6 (by decide) w_f_RX12_322 rfl rfl dX12_feed_118 ?_
      obtain ⟨rfl, rfl⟩ := zsm hf
      exact g_iret X hr dX12_feed_121
  · have hf := zneg hq hf
    refine g_iconst X (v := -1) dX12_feed_18 (by decide) ?_
    obtain ⟨rfl, rfl⟩ := zsm hf
    exact g_iret X hr dX12_feed_19

set_option maxHeartbeats 4000000 in
set_option maxRecDepth 100000 in
theorem sX12_fault {l : Launch} {D : va_G} {cA : Nat → ClassId} {base : Nat} {sA : Nat → Nat} {r0 : Nat} {h hE : Zh} {rE : Int32} (hf : fX12_fault r0 h = some (rE, hE)) : zC l yX12_fault cX12_fault 1 (some .int) 0 0 D cA base sA [.ref (base + r0)] h (some (.int rE)) hE := by
  refine g_entry RX12 (by decide) rfl (Nat.le_of_ble_eq_true rfl) ?_
  intro p e s m args below meth c X hr
  unfold fX12_fault at hf
  have hf := zlet_n (x := h) rfl hf
  show zG p l e { frames := 0, cells := 0, slots := 0, locals := 0 } s m args below meth c (MQ below (zQ D cA base h hE (some (.int rE))) args s 0 0 (zA base)) 1 D cA base h 0 [(0, .ref (base + r0))] [] h
  refine g_aload_n X 0 dX12_fault_0 rfl ?_
  refine g_iconst X (v := 0) dX12_fault_1 (by decide) ?_
  obtain ⟨hk1, hf⟩ := zite hf
  refine g_putI X zf12 hk1 0 (by decide) w_f_RX12_86 rfl rfl rfl dX12_fault_2 ?_
  refine g_hp (fun h2 eh2 => ?_)
  have hf := zlet_n eh2 hf
  refine g_aload_n X 0 dX12_fault_5 rfl ?_
  refine g_get X zf12 hk1 13 (by decide) w_f_RX12_147 rfl rfl dX12_fault_6 ?_
  obtain ⟨rfl, rfl⟩ := zsm hf
  exact g_iret X hr dX12_fault_9

set_option maxHeartbeats 4000000 in
set_option maxRecDepth 100000 in
theorem sX12_where {l : Launch} {D : va_G} {cA : Nat → ClassId} {base : Nat} {sA : Nat → Nat} {r0 : Nat} {h hE : Zh} {rE : Int32} (hf : fX12_where r0 h = some (rE, hE)) : zC l yX12_where cX12_where 1 (some .int) 0 0 D cA base sA [.ref (base + r0)] h (some (.int rE)) hE := by
  refine g_entry RX12 (by decide) rfl (Nat.le_of_ble_eq_true rfl) ?_
  intro p e s m args below meth c X hr
  unfold fX12_where at hf
  have hf := zlet_n (x := h) rfl hf
  show zG p l e { frames := 0, cells := 0, slots := 0, locals := 0 } s m args below meth c (MQ below (zQ D cA base h hE (some (.int rE))) args s 0 0 (zA base)) 1 D cA base h 0 [(0, .ref (base + r0))] [] h
  refine g_aload_n X 0 dX12_where_0 rfl ?_
  refine g_iconst X (v := 0) dX12_where_1 (by decide) ?_
  obtain ⟨hk1, hf⟩ := zite hf
  refine g_putI X zf12 hk1 0 (by decide) w_f_RX12_86 rfl rfl rfl dX12_where_2 ?_
  refine g_hp (fun h2 eh2 => ?_)
  have hf := zlet_n eh2 hf
  refine g_aload_n X 0 dX12_where_5 rfl ?_
  refine g_get X zf12 hk1 2 (by decide) w_f_RX12_9 rfl rfl dX12_where_6 ?_
  obtain ⟨rfl, rfl⟩ := zsm hf
  exact g_iret X hr dX12_where_9

