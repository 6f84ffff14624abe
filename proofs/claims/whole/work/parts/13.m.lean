/-! FifthCard Lister following -/
def bX5_following_6 (g : Zh) (r0 : Nat) (x2 : Int32) (x3 : Int32) (x4 : Int32) (x5 : Int32) (h : Zh) : Option (Nat × Int32 × Int32 × Zh) :=
  if x2 ≤ x5 then some (1, (x4, (x5, h))) else if x3 = 0 then if zK g r0 = 5 then (zR h r0 0).bind fun r_2 => if zK g r_2 = 100 then if zin x5 (zL g r_2) then zlet (x4 ||| (((1 : Int32)) <<< ((zI h r_2 x5.toNatClampNeg) &&& 31))) fun y5 => zlet (x5 + (1 : Int32)) fun y6 => some (0, (y5, (y6, h))) else none else none else none else some (1, (x4, (x5, h)))
def bX5_following_46 (g : Zh) (x1 : Int32) (x4 : Int32) (x5 : Int32) (h : Zh) : Option (Nat × Int32 × Zh) :=
  if x1 ≤ x5 then some (2, (x5, h)) else if ((x4 >>> (x5 &&& 31)) &&& ((1 : Int32))) = 0 then some (1, (x5, h)) else zlet (x5 + (1 : Int32)) fun y12 => some (0, (y12, h))
def kX5_following_46 (g : Zh) (x1 : Int32) (e : Nat) (x5 : Int32) (h : Zh) : Option (Int32 × Zh) :=
  if e = 1 then some (x5, h) else some (x1, h)
def kX5_following_6 (g : Zh) (r0 : Nat) (x1 : Int32) (x2 : Int32) (e : Nat) (x4 : Int32) (x5 : Int32) (h : Zh) : Option (Int32 × Zh) :=
  if zK g r0 = 5 then (zR h r0 0).bind fun r_8 => if zK g r_8 = 100 then if zin x2 (zL g r_8) then zlet ((zI h r_8 x2.toNatClampNeg) + ((1 : Int32))) fun y11 => (lp (fun q : Int32 × Zh => bX5_following_46 g x1 x4 q.1 q.2) zB (y11, h)).bind fun q => kX5_following_46 g x1 q.1 q.2.1 q.2.2 else none else none else none
def fX5_following (r0 : Nat) (x1 : Int32) (x2 : Int32) (x3 : Int32) (h : Zh) : Option (Int32 × Zh) := zlet h fun g =>
  (lp (fun q : Int32 × Int32 × Zh => bX5_following_6 g r0 x2 x3 q.1 q.2.1 q.2.2) zB ((0 : Int32), ((0 : Int32), h))).bind fun q => kX5_following_6 g r0 x1 x2 q.1 q.2.1 q.2.2.1 q.2.2.2
/-! FifthCard Lister pack -/
def bX5_pack_6 (g : Zh) (r0 : Nat) (x2 : Int32) (x3 : Int32) (h : Zh) : Option (Nat × Int32 × Int32 × Zh) :=
  if x3 < 0 then some (1, (x2, (x3, h))) else if zK g r0 = 5 then (zR h r0 0).bind fun r_3 => if zK g r_3 = 100 then if zin x3 (zL g r_3) then zlet ((x2 <<< (((4 : Int32)) &&& 31)) ||| (zI h r_3 x3.toNatClampNeg)) fun y6 => zlet (x3 + (-1 : Int32)) fun y7 => some (0, (y6, (y7, h))) else none else none else none
def kX5_pack_6 (g : Zh)  (e : Nat) (x2 : Int32) (x3 : Int32) (h : Zh) : Option (Int32 × Zh) :=
  some (x2, h)
def fX5_pack (r0 : Nat) (x1 : Int32) (h : Zh) : Option (Int32 × Zh) := zlet h fun g =>
  zlet (x1 - ((1 : Int32))) fun y1 => (lp (fun q : Int32 × Int32 × Zh => bX5_pack_6 g r0 q.1 q.2.1 q.2.2) zB ((0 : Int32), (y1, h))).bind fun q => kX5_pack_6 g q.1 q.2.1 q.2.2.1 q.2.2.2
/-! FifthCard Lister list -/
def bX5_list_16 (g : Zh) (r0 : Nat) (x1 : Int32) (x2 : Int32) (x3 : Int32) (r4 : Nat) (x5 : Int32) (x6 : Int32) (x7 : Int32) (h : Zh) : Option (Nat × Int32 × Int32 × Int32 × Zh) :=
  if ((1000000 : Int32)) ≤ x7 then some (1, (x5, (x6, (x7, h)))) else if x6 < 0 then some (1, (x5, (x6, (x7, h)))) else if zK g r4 = 100 then if (Int32.ofNat (zL g r4)) ≤ x5 then some (1, (x5, (x6, (x7, h)))) else (zR h r0 0).bind fun r_7 => zc2 (fX5_following r0 x1 x6 x3 h) fun v9 h8 => if zK g r_7 = 100 then if zin x6 (zL g r_7) then zlet (zsI h8 r_7 x6.toNatClampNeg v9) fun h12 => (zR h12 r0 0).bind fun r_13 => if zK g r_13 = 100 then if zin x6 (zL g r_13) then if (zI h12 r_13 x6.toNatClampNeg) < x1 then if x6 = (x2 - ((1 : Int32))) then zc2 (fX5_pack r0 x2 h12) fun v30 h29 => if zin x5 (zL g r4) then zlet (zsI h29 r4 x5.toNatClampNeg v30) fun h32 => zlet (x5 + (1 : Int32)) fun y33 => zlet (x7 + (1 : Int32)) fun y34 => some (0, (y33, (x6, (y34, h32)))) else none else zlet (x6 + (1 : Int32)) fun y16 => (zR h12 r0 0).bind fun r_17 => if x3 = 0 then if zK g r_17 = 100 then if zin y16 (zL g r_17) then zlet (zsI h12 r_17 y16.toNatClampNeg ((-1 : Int32))) fun h20 => zlet (x7 + (1 : Int32)) fun y21 => some (0, (x5, (y16, (y21, h20)))) else none else none else (zR h12 r0 0).bind fun r_22 => if zK g r_22 = 100 then if zin (y16 - ((1 : Int32))) (zL g r_22) then if zK g r_17 = 100 then if zin y16 (zL g r_17) then zlet (zsI h12 r_17 y16.toNatClampNeg (zI h12 r_22 (y16 - ((1 : Int32))).toNatClampNeg)) fun h27 => zlet (x7 + (1 : Int32)) fun y28 => some (0, (x5, (y16, (y28, h27)))) else none else none else none else none else zlet (x6 + (-1 : Int32)) fun y35 => zlet (x7 + (1 : Int32)) fun y36 => some (0, (x5, (y35, (y36, h12)))) else none else none else none else none else none
def kX5_list_16 (g : Zh)  (e : Nat) (x5 : Int32) (x6 : Int32) (x7 : Int32) (h : Zh) : Option Zh :=
  some h
def fX5_list (r0 : Nat) (x1 : Int32) (x2 : Int32) (x3 : Int32) (r4 : Nat) (h : Zh) : Option Zh := zlet h fun g =>
  if zK g r0 = 5 then (zR h r0 0).bind fun r_2 => if zK g r_2 = 100 then if zin ((0 : Int32)) (zL g r_2) then zlet (zsI h r_2 ((0 : Int32)).toNatClampNeg ((-1 : Int32))) fun h5 => (lp (fun q : Int32 × Int32 × Int32 × Zh => bX5_list_16 g r0 x1 x2 x3 r4 q.1 q.2.1 q.2.2.1 q.2.2.2) zB ((0 : Int32), ((0 : Int32), ((0 : Int32), h5)))).bind fun q => kX5_list_16 g q.1 q.2.1 q.2.2.1 q.2.2.2.1 q.2.2.2.2 else none else none else none
/-! java/util/Arrays fill -/
def bJ7_fill_53178_5 (g : Zh) (r0 : Nat) (x1 : Int32) (x3 : Int32) (x2 : Int32) (h : Zh) : Option (Nat × Int32 × Zh) :=
  if x3 ≤ x2 then some (1, (x2, h)) else if zin x2 (zL g r0) then zlet (zsI h r0 x2.toNatClampNeg x1) fun h4 => zlet (x2 + (1 : Int32)) fun y5 => some (0, (y5, h4)) else none
def kJ7_fill_53178_5 (g : Zh)  (e : Nat) (x2 : Int32) (h : Zh) : Option Zh :=
  some h
def fJ7_fill_53178 (r0 : Nat) (x1 : Int32) (h : Zh) : Option Zh := zlet h fun g =>
  if zK g r0 = 100 then zlet (Int32.ofNat (zL g r0)) fun y2 => (lp (fun q : Int32 × Zh => bJ7_fill_53178_5 g r0 x1 y2 q.1 q.2) zB ((0 : Int32), h)).bind fun q => kJ7_fill_53178_5 g q.1 q.2.1 q.2.2 else none
/-! FifthCard Ledger begin -/
def bX4_begin_64 (g : Zh) (r0 : Nat) (x2 : Int32) (h : Zh) : Option (Nat × Int32 × Zh) :=
  if ((4 : Int32)) ≤ x2 then some (1, (x2, h)) else (zR h r0 6).bind fun r_22 => if zK g r_22 = 104 then if zin x2 (zL g r_22) then (zR h r_22 x2.toNatClampNeg).bind fun r_25 => if zK g r_25 = 2 then (fX2_clear r_25 h).bind fun h27 => zlet (x2 + (1 : Int32)) fun y28 => some (0, (y28, h27)) else none else none else none
def kX4_begin_64 (g : Zh) (r0 : Nat) (e : Nat) (x2 : Int32) (h : Zh) : Option Zh :=
  (zR h r0 7).bind fun r_29 => (fJ7_fill_53178 r_29 ((-3 : Int32)) h).bind fun h30 => (zR h30 r0 8).bind fun r_31 => (fJ7_fill_53178 r_31 ((-3 : Int32)) h30).bind fun h32 => zlet (zsI h32 r0 9 ((-3 : Int32))) fun h33 => some h33
def jX4_begin_47 (g : Zh) (r0 : Nat) (t0 : Int32) (t1 : Int32) (t2 : Int32) (t3 : Nat) (h : Zh) : Option Zh :=
  (zR h r0 0).bind fun r_16 => if zK g t3 = 5 then (fX5_list t3 t2 t1 t0 r_16 h).bind fun h18 => (zR h18 r0 5).bind fun r_19 => if zK g r_19 = 6 then zlet (zsI h18 r_19 1 ((0 : Int32))) fun h21 => (lp (fun q : Int32 × Zh => bX4_begin_64 g r0 q.1 q.2) zB ((0 : Int32), h21)).bind fun q => kX4_begin_64 g r0 q.1 q.2.1 q.2.2 else none else none
def fX4_begin (r0 : Nat) (r1 : Nat) (h : Zh) : Option Zh := zlet h fun g =>
  if zK g r0 = 4 then zlet (zsR h r0 1 (some r1)) fun h2 => (zR h2 r0 2).bind fun r_3 => (zR h2 r0 1).bind fun r_4 => if zK g r_4 = 9 then (zR h2 r_4 1).bind fun r_6 => if zK g r_6 = 0 then (zR h2 r0 1).bind fun r_8 => if zK g r_8 = 9 then (zR h2 r_8 1).bind fun r_10 => if zK g r_10 = 0 then (zR h2 r0 1).bind fun r_12 => if zK g r_12 = 9 then (zR h2 r_12 1).bind fun r_14 => if zK g r_14 = 0 then if (zI h2 r_14 6) = 0 then jX4_begin_47 g r0 ((1 : Int32)) (zI h2 r_10 3) (zI h2 r_6 0) r_3 h2 else jX4_begin_47 g r0 ((0 : Int32)) (zI h2 r_10 3) (zI h2 r_6 0) r_3 h2 else none else none else none else none else none else none else none
/-! FifthCard Ledger tableRow -/
def fX4_tableRow (r0 : Nat) (x1 : Int32) (h : Zh) : Option (Int32 × Zh) := zlet h fun g =>
  if zK g r0 = 4 then (zR h r0 5).bind fun r_2 => if zK g r_2 = 6 then if (zI h r_2 2) = 0 then some ((-2 : Int32), h) else if ((300 : Int32)) ≤ x1 then some ((-2 : Int32), h) else (zR h r0 5).bind fun r_4 => if zK g r_4 = 6 then (zR h r_4 0).bind fun r_6 => if zK g r_6 = 100 then if zin x1 (zL g r_6) then some (zI h r_6 x1.toNatClampNeg, h) else none else none else none else none else none
/-! FifthCard Ledger rowFor -/
def fX4_rowFor (r0 : Nat) (x1 : Int32) (x2 : Int32) (h : Zh) : Option (Int32 × Zh) := zlet h fun g =>
  if x1 = ((21 : Int32)) then if zK g r0 = 4 then zc2 (fX4_tableRow r0 x2 h) fun v25 h24 => some (v25, h24) else none else if x1 = ((20 : Int32)) then if zK g r0 = 4 then (zR h r0 3).bind fun r_13 => (zR h r0 1).bind fun r_14 => if zK g r_14 = 9 then (zR h r_14 1).bind fun r_16 => (zR h r0 0).bind fun r_17 => if zK g r_17 = 100 then if zin x2 (zL g r_17) then if zK g r_13 = 3 then zc2 (fX3_bySuit r_13 r_16 (zI h r_17 x2.toNatClampNeg) h) fun v22 h21 => some (v22, h21) else none else none else none else none else none else if zK g r0 = 4 then (zR h r0 3).bind fun r_2 => (zR h r0 1).bind fun r_3 => if zK g r_3 = 9 then (zR h r_3 1).bind fun r_5 => (zR h r0 0).bind fun r_6 => if zK g r_6 = 100 then if zin x2 (zL g r_6) then if zK g r_2 = 3 then zc2 (fX3_byWords r_2 r_5 (zI h r_6 x2.toNatClampNeg) x1 h) fun v11 h10 => some (v11, h10) else none else none else none else none else none
/-! FifthCard RowSet slotOf -/
def bX8_slotOf_10 (g : Zh) (r0 : Nat) (x1 : Int32) (x2 : Int32) (x3 : Int32) (h : Zh) : Option (Nat × Int32 × Int32 × Zh) :=
  if ((4096 : Int32)) ≤ x3 then some (2, (x2, (x3, h))) else if zK g r0 = 8 then (zR h r0 2).bind fun r_3 => if zK g r_3 = 100 then if zin x2 (zL g r_3) then if (zI h r_3 x2.toNatClampNeg) = (zI h r0 3) then (zR h r0 0).bind fun r_6 => if zK g r_6 = 100 then if zin x2 (zL g r_6) then if (zI h r_6 x2.toNatClampNeg) = x1 then some (1, (x2, (x3, h))) else zlet ((x2 + ((1 : Int32))) &&& ((4095 : Int32))) fun y9 => zlet (x3 + (1 : Int32)) fun y10 => some (0, (y9, (y10, h))) else none else none else some (1, (x2, (x3, h))) else none else none else none
def kX8_slotOf_10 (g : Zh)  (e : Nat) (x2 : Int32) (x3 : Int32) (h : Zh) : Option (Int32 × Zh) :=
  if e = 1 then some (x2, h) else some ((-1 : Int32), h)
def fX8_slotOf (r0 : Nat) (x1 : Int32) (h : Zh) : Option (Int32 × Zh) := zlet h fun g =>
  zlet (zush (x1 * ((-1640531535 : Int32))) ((20 : Int32))) fun y1 => (lp (fun q : Int32 × Int32 × Zh => bX8_slotOf_10 g r0 x1 q.1 q.2.1 q.2.2) zB (y1, ((0 : Int32), h))).bind fun q => kX8_slotOf_10 g q.1 q.2.1 q.2.2.1 q.2.2.2
/-! FifthCard RowSet put -/
def fX8_put (r0 : Nat) (x1 : Int32) (x2 : Int32) (h : Zh) : Option (Int32 × Zh) := zlet h fun g =>
  if zK g r0 = 8 then zc2 (fX8_slotOf r0 x1 h) fun v3 h2 => if 0 ≤ v3 then (zR h2 r0 2).bind fun r_4 => if zK g r_4 = 100 then if zin v3 (zL g r_4) then if (zI h2 r_4 v3.toNatClampNeg) = (zI h2 r0 3) then (zR h2 r0 1).bind fun r_19 => if zK g r_19 = 100 then if zin v3 (zL g r_19) then some (zI h2 r_19 v3.toNatClampNeg, h2) else none else none else (zR h2 r0 2).bind fun r_7 => if zK g r_7 = 100 then if zin v3 (zL g r_7) then zlet (zsI h2 r_7 v3.toNatClampNeg (zI h2 r0 3)) fun h10 => (zR h10 r0 0).bind fun r_11 => if zK g r_11 = 100 then if zin v3 (zL g r_11) then zlet (zsI h10 r_11 v3.toNatClampNeg x1) fun h14 => (zR h14 r0 1).bind fun r_15 => if zK g r_15 = 100 then if zin v3 (zL g r_15) then zlet (zsI h14 r_15 v3.toNatClampNeg x2) fun h18 => some ((-1 : Int32), h18) else none else none else none else none else none else none else none else none else some ((-1 : Int32), h2) else none
/-! FifthCard Ledger note -/
def fX4_note (r0 : Nat) (r1 : Nat) (x2 : Int32) (x3 : Int32) (h : Zh) : Option Zh := zlet h fun g =>
  if zK g r1 = 2 then (zR h r1 1).bind fun r_2 => if zK g r_2 = 100 then if zin x2 (zL g r_2) then zlet (zsI h r_2 x2.toNatClampNeg x3) fun h5 => if 0 ≤ x3 then if zK g r0 = 4 then (zR h5 r0 4).bind fun r_7 => if zK g r_7 = 8 then zc2 (fX8_put r_7 x3 x2 h5) fun v10 h9 => if 0 ≤ v10 then if 0 ≤ (zI h9 r1 5) then some h9 else zlet (zsI h9 r1 5 x2) fun h11 => zlet (zsI h11 r1 6 v10) fun h12 => some h12 else zlet (zsI h9 r1 4 ((zI h9 r1 4) + ((1 : Int32)))) fun h13 => some h13 else none else none else zlet (zsI h5 r1 3 ((zI h5 r1 3) + ((1 : Int32)))) fun h14 => some h14 else none else none else none
/-! FifthCard Ledger firstLaid -/
def bX4_firstLaid_2 (g : Zh) (r0 : Nat) (r1 : Nat) (x2 : Int32) (x3 : Int32) (h : Zh) : Option (Nat × Int32 × Zh) :=
  if zK g r0 = 4 then (zR h r0 1).bind fun r_2 => if zK g r_2 = 9 then (zR h r_2 1).bind fun r_4 => if zK g r_4 = 0 then if (zI h r_4 9) ≤ x3 then some (2, (x3, h)) else if zK g r1 = 2 then (zR h r1 1).bind fun r_7 => if zK g r_7 = 100 then if zin x3 (zL g r_7) then if (zI h r_7 x3.toNatClampNeg) = x2 then some (1, (x3, h)) else zlet (x3 + (1 : Int32)) fun y10 => some (0, (y10, h)) else none else none else none else none else none else none
def kX4_firstLaid_2 (g : Zh)  (e : Nat) (x3 : Int32) (h : Zh) : Option (Int32 × Zh) :=
  if e = 1 then some (x3, h) else some ((-2 : Int32), h)
def fX4_firstLaid (r0 : Nat) (r1 : Nat) (x2 : Int32) (h : Zh) : Option (Int32 × Zh) := zlet h fun g =>
  (lp (fun q : Int32 × Zh => bX4_firstLaid_2 g r0 r1 x2 q.1 q.2) zB ((0 : Int32), h)).bind fun q => kX4_firstLaid_2 g q.1 q.2.1 q.2.2
/-! FifthCard Ledger failedHand -/
def bX4_failedHand_20 (g : Zh) (r0 : Nat) (r1 : Nat) (x3 : Int32) (x4 : Int32) (h : Zh) : Option (Nat × Int32 × Int32 × Zh) :=
  if zK g r0 = 4 then (zR h r0 1).bind fun r_3 => if zK g r_3 = 9 then (zR h r_3 1).bind fun r_5 => if zK g r_5 = 0 then if (zI h r_5 9) ≤ x4 then some (2, (x3, (x4, h))) else (zR h r1 1).bind fun r_7 => if zK g r_7 = 100 then if zin x4 (zL g r_7) then if 0 ≤ (zI h r_7 x4.toNatClampNeg) then zlet (x4 + (1 : Int32)) fun y10 => some (0, (x3, (y10, h))) else if x3 = 0 then some (1, (x3, (x4, h))) else zlet (x3 + (-1 : Int32)) fun y11 => zlet (x4 + (1 : Int32)) fun y12 => some (0, (y11, (y12, h))) else none else none else none else none else none
def kX4_failedHand_20 (g : Zh)  (e : Nat) (x3 : Int32) (x4 : Int32) (h : Zh) : Option (Int32 × Zh) :=
  if e = 1 then some (x4, h) else some ((-2 : Int32), h)
def fX4_failedHand (r0 : Nat) (r1 : Nat) (x2 : Int32) (h : Zh) : Option (Int32 × Zh) := zlet h fun g =>
  if x2 < 0 then some ((-2 : Int32), h) else if zK g r1 = 2 then if x2 < (zI h r1 3) then (lp (fun q : Int32 × Int32 × Zh => bX4_failedHand_20 g r0 r1 q.1 q.2.1 q.2.2) zB (x2, ((0 : Int32), h))).bind fun q => kX4_failedHand_20 g q.1 q.2.1 q.2.2.1 q.2.2.2 else some ((-2 : Int32), h) else none
/-! FifthCard RowSet clear -/
def fX8_clear (r0 : Nat) (h : Zh) : Option Zh := zlet h fun g =>
  if zK g r0 = 8 then zlet (zsI h r0 3 ((zI h r0 3) + ((1 : Int32)))) fun h2 => some h2 else none
theorem dX5_following_0 : decode cX5_following 0 = .ok (.iconst 0, 1) := by decide +kernel
theorem dX5_following_1 : decode cX5_following 1 = .ok (.istore 4, 2) := by decide +kernel
theorem dX5_following_3 : decode cX5_following 3 = .ok (.iconst 0, 1) := by decide +kernel
theorem dX5_following_4 : decode cX5_following 4 = .ok (.istore 5, 2) := by decide +kernel
theorem dX5_following_6 : decode cX5_following 6 = .ok (.iload 5, 2) := by decide +kernel
theorem dX5_following_8 : decode cX5_following 8 = .ok (.iload_n 2, 1) := by decide +kernel
theorem dX5_following_9 : decode cX5_following 9 = .ok (.if_icmp .ge 27, 3) := by decide +kernel
theorem dX5_following_12 : decode cX5_following 12 = .ok (.iload_n 3, 1) := by decide +kernel
theorem dX5_following_13 : decode cX5_following 13 = .ok (.ifCond .ne 23, 3) := by decide +kernel
theorem dX5_following_16 : decode cX5_following 16 = .ok (.iload 4, 2) := by decide +kernel
theorem dX5_following_18 : decode cX5_following 18 = .ok (.iconst 1, 1) := by decide +kernel
theorem dX5_following_19 : decode cX5_following 19 = .ok (.aload_n 0, 1) := by decide +kernel
theorem dX5_following_20 : decode cX5_following 20 = .ok (.getfield 9, 3) := by decide +kernel
theorem dX5_following_23 : decode cX5_following 23 = .ok (.iload 5, 2) := by decide +kernel
theorem dX5_following_25 : decode cX5_following 25 = .ok (.iaload, 1) := by decide +kernel
theorem dX5_following_26 : decode cX5_following 26 = .ok (.ishl, 1) := by decide +kernel
theorem dX5_following_27 : decode cX5_following 27 = .ok (.ior, 1) := by decide +kernel
theorem dX5_following_28 : decode cX5_following 28 = .ok (.istore 4, 2) := by decide +kernel
theorem dX5_following_30 : decode cX5_following 30 = .ok (.iinc 5 1, 3) := by decide +kernel
theorem dX5_following_33 : decode cX5_following 33 = .ok (.goto (-27), 3) := by decide +kernel
theorem dX5_following_36 : decode cX5_following 36 = .ok (.aload_n 0, 1) := by decide +kernel
theorem dX5_following_37 : decode cX5_following 37 = .ok (.getfield 9, 3) := by decide +kernel
theorem dX5_following_40 : decode cX5_following 40 = .ok (.iload_n 2, 1) := by decide +kernel
theorem dX5_following_41 : decode cX5_following 41 = .ok (.iaload, 1) := by decide +kernel
theorem dX5_following_42 : decode cX5_following 42 = .ok (.iconst 1, 1) := by decide +kernel
theorem dX5_following_43 : decode cX5_following 43 = .ok (.iadd, 1) := by decide +kernel
theorem dX5_following_44 : decode cX5_following 44 = .ok (.istore 5, 2) := by decide +kernel
theorem dX5_following_46 : decode cX5_following 46 = .ok (.iload 5, 2) := by decide +kernel
theorem dX5_following_48 : decode cX5_following 48 = .ok (.iload_n 1, 1) := by decide +kernel
theorem dX5_following_49 : decode cX5_following 49 = .ok (.if_icmp .ge 22, 3) := by decide +kernel
theorem dX5_following_52 : decode cX5_following 52 = .ok (.iload 4, 2) := by decide +kernel
theorem dX5_following_54 : decode cX5_following 54 = .ok (.iload 5, 2) := by decide +kernel
theorem dX5_following_56 : decode cX5_following 56 = .ok (.ishr, 1) := by decide +kernel
theorem dX5_following_57 : decode cX5_following 57 = .ok (.iconst 1, 1) := by decide +kernel
theorem dX5_following_58 : decode cX5_following 58 = .ok (.iand, 1) := by decide +kernel
theorem dX5_following_59 : decode cX5_following 59 = .ok (.ifCond .ne 6, 3) := by decide +kernel
theorem dX5_following_62 : decode cX5_following 62 = .ok (.iload 5, 2) := by decide +kernel
theorem dX5_following_64 : decode cX5_following 64 = .ok (.ireturn, 1) := by decide +kernel
theorem dX5_following_65 : decode cX5_following 65 = .ok (.iinc 5 1, 3) := by decide +kernel
theorem dX5_following_68 : decode cX5_following 68 = .ok (.goto (-22), 3) := by decide +kernel
theorem dX5_following_71 : decode cX5_following 71 = .ok (.iload_n 1, 1) := by decide +kernel
theorem dX5_following_72 : decode cX5_following 72 = .ok (.ireturn, 1) := by decide +kernel
theorem dX5_pack_0 : decode cX5_pack 0 = .ok (.iconst 0, 1) := by decide +kernel
theorem dX5_pack_1 : decode cX5_pack 1 = .ok (.istore_n 2, 1) := by decide +kernel
theorem dX5_pack_2 : decode cX5_pack 2 = .ok (.iload_n 1, 1) := by decide +kernel
theorem dX5_pack_3 : decode cX5_pack 3 = .ok (.iconst 1, 1) := by decide +kernel
theorem dX5_pack_4 : decode cX5_pack 4 = .ok (.isub, 1) := by decide +kernel
theorem dX5_pack_5 : decode cX5_pack 5 = .ok (.istore_n 3, 1) := by decide +kernel
theorem dX5_pack_6 : decode cX5_pack 6 = .ok (.iload_n 3, 1) := by decide +kernel
theorem dX5_pack_7 : decode cX5_pack 7 = .ok (.ifCond .lt 20, 3) := by decide +kernel
theorem dX5_pack_10 : decode cX5_pack 10 = .ok (.iload_n 2, 1) := by decide +kernel
theorem dX5_pack_11 : decode cX5_pack 11 = .ok (.iconst 4, 1) := by decide +kernel
theorem dX5_pack_12 : decode cX5_pack 12 = .ok (.ishl, 1) := by decide +kernel
theorem dX5_pack_13 : decode cX5_pack 13 = .ok (.aload_n 0, 1) := by decide +kernel
theorem dX5_pack_14 : decode cX5_pack 14 = .ok (.getfield 9, 3) := by decide +kernel
theorem dX5_pack_17 : decode cX5_pack 17 = .ok (.iload_n 3, 1) := by decide +kernel
theorem dX5_pack_18 : decode cX5_pack 18 = .ok (.iaload, 1) := by decide +kernel
theorem dX5_pack_19 : decode cX5_pack 19 = .ok (.ior, 1) := by decide +kernel
theorem dX5_pack_20 : decode cX5_pack 20 = .ok (.istore_n 2, 1) := by decide +kernel
theorem dX5_pack_21 : decode cX5_pack 21 = .ok (.iinc 3 (-1), 3) := by decide +kernel
theorem dX5_pack_24 : decode cX5_pack 24 = .ok (.goto (-18), 3) := by decide +kernel
theorem dX5_pack_27 : decode cX5_pack 27 = .ok (.iload_n 2, 1) := by decide +kernel
theorem dX5_pack_28 : decode cX5_pack 28 = .ok (.ireturn, 1) := by decide +kernel
theorem dX5_list_0 : decode cX5_list 0 = .ok (.iconst 0, 1) := by decide +kernel
theorem dX5_list_1 : decode cX5_list 1 = .ok (.istore 5, 2) := by decide +kernel
theorem dX5_list_3 : decode cX5_list 3 = .ok (.iconst 0, 1) := by decide +kernel
theorem dX5_list_4 : decode cX5_list 4 = .ok (.istore 6, 2) := by decide +kernel
theorem dX5_list_6 : decode cX5_list 6 = .ok (.aload_n 0, 1) := by decide +kernel
theorem dX5_list_7 : decode cX5_list 7 = .ok (.getfield 9, 3) := by decide +kernel
theorem dX5_list_10 : decode cX5_list 10 = .ok (.iconst 0, 1) := by decide +kernel
theorem dX5_list_11 : decode cX5_list 11 = .ok (.iconst (-1), 1) := by decide +kernel
theorem dX5_list_12 : decode cX5_list 12 = .ok (.iastore, 1) := by decide +kernel
theorem dX5_list_13 : decode cX5_list 13 = .ok (.iconst 0, 1) := by decide +kernel
theorem dX5_list_14 : decode cX5_list 14 = .ok (.istore 7, 2) := by decide +kernel
theorem dX5_list_16 : decode cX5_list 16 = .ok (.iload 7, 2) := by decide +kernel
theorem dX5_list_18 : decode cX5_list 18 = .ok (.ldc 15, 2) := by decide +kernel
theorem dX5_list_20 : decode cX5_list 20 = .ok (.if_icmp .ge 105, 3) := by decide +kernel
theorem dX5_list_23 : decode cX5_list 23 = .ok (.iload 6, 2) := by decide +kernel
theorem dX5_list_25 : decode cX5_list 25 = .ok (.ifCond .lt 100, 3) := by decide +kernel
theorem dX5_list_28 : decode cX5_list 28 = .ok (.iload 5, 2) := by decide +kernel
theorem dX5_list_30 : decode cX5_list 30 = .ok (.aload 4, 2) := by decide +kernel
theorem dX5_list_32 : decode cX5_list 32 = .ok (.arraylength, 1) := by decide +kernel
theorem dX5_list_33 : decode cX5_list 33 = .ok (.if_icmp .ge 92, 3) := by decide +kernel
theorem dX5_list_36 : decode cX5_list 36 = .ok (.aload_n 0, 1) := by decide +kernel
theorem dX5_list_37 : decode cX5_list 37 = .ok (.getfield 9, 3) := by decide +kernel
theorem dX5_list_40 : decode cX5_list 40 = .ok (.iload 6, 2) := by decide +kernel
theorem dX5_list_42 : decode cX5_list 42 = .ok (.aload_n 0, 1) := by decide +kernel
theorem dX5_list_43 : decode cX5_list 43 = .ok (.iload_n 1, 1) := by decide +kernel
theorem dX5_list_44 : decode cX5_list 44 = .ok (.iload 6, 2) := by decide +kernel
theorem dX5_list_46 : decode cX5_list 46 = .ok (.iload_n 3, 1) := by decide +kernel
theorem dX5_list_47 : decode cX5_list 47 = .ok (.invokevirtual 16, 3) := by decide +kernel
theorem dX5_list_50 : decode cX5_list 50 = .ok (.iastore, 1) := by decide +kernel
theorem dX5_list_51 : decode cX5_list 51 = .ok (.aload_n 0, 1) := by decide +kernel
theorem dX5_list_52 : decode cX5_list 52 = .ok (.getfield 9, 3) := by decide +kernel
theorem dX5_list_55 : decode cX5_list 55 = .ok (.iload 6, 2) := by decide +kernel
theorem dX5_list_57 : decode cX5_list 57 = .ok (.iaload, 1) := by decide +kernel
theorem dX5_list_58 : decode cX5_list 58 = .ok (.iload_n 1, 1) := by decide +kernel
theorem dX5_list_59 : decode cX5_list 59 = .ok (.if_icmp .lt 9, 3) := by decide +kernel
theorem dX5_list_62 : decode cX5_list 62 = .ok (.iinc 6 (-1), 3) := by decide +kernel
theorem dX5_list_65 : decode cX5_list 65 = .ok (.goto 54, 3) := by decide +kernel
theorem dX5_list_68 : decode cX5_list 68 = .ok (.iload 6, 2) := by decide +kernel
theorem dX5_list_70 : decode cX5_list 70 = .ok (.iload_n 2, 1) := by decide +kernel
theorem dX5_list_71 : decode cX5_list 71 = .ok (.iconst 1, 1) := by decide +kernel
theorem dX5_list_72 : decode cX5_list 72 = .ok (.isub, 1) := by decide +kernel
theorem dX5_list_73 : decode cX5_list 73 = .ok (.if_icmp .ne 19, 3) := by decide +kernel
theorem dX5_list_76 : decode cX5_list 76 = .ok (.aload 4, 2) := by decide +kernel
theorem dX5_list_78 : decode cX5_list 78 = .ok (.iload 5, 2) := by decide +kernel
theorem dX5_list_80 : decode cX5_list 80 = .ok (.aload_n 0, 1) := by decide +kernel
theorem dX5_list_81 : decode cX5_list 81 = .ok (.iload_n 2, 1) := by decide +kernel
theorem dX5_list_82 : decode cX5_list 82 = .ok (.invokevirtual 20, 3) := by decide +kernel
theorem dX5_list_85 : decode cX5_list 85 = .ok (.iastore, 1) := by decide +kernel
theorem dX5_list_86 : decode cX5_list 86 = .ok (.iinc 5 1, 3) := by decide +kernel
theorem dX5_list_89 : decode cX5_list 89 = .ok (.goto 30, 3) := by decide +kernel
theorem dX5_list_92 : decode cX5_list 92 = .ok (.iinc 6 1, 3) := by decide +kernel
theorem dX5_list_95 : decode cX5_list 95 = .ok (.aload_n 0, 1) := by decide +kernel
theorem dX5_list_96 : decode cX5_list 96 = .ok (.getfield 9, 3) := by decide +kernel
theorem dX5_list_99 : decode cX5_list 99 = .ok (.iload 6, 2) := by decide +kernel
theorem dX5_list_101 : decode cX5_list 101 = .ok (.iload_n 3, 1) := by decide +kernel
theorem dX5_list_102 : decode cX5_list 102 = .ok (.ifCond .eq 15, 3) := by decide +kernel
theorem dX5_list_105 : decode cX5_list 105 = .ok (.aload_n 0, 1) := by decide +kernel
theorem dX5_list_106 : decode cX5_list 106 = .ok (.getfield 9, 3) := by decide +kernel
theorem dX5_list_109 : decode cX5_list 109 = .ok (.iload 6, 2) := by decide +kernel
theorem dX5_list_111 : decode cX5_list 111 = .ok (.iconst 1, 1) := by decide +kernel
theorem dX5_list_112 : decode cX5_list 112 = .ok (.isub, 1) := by decide +kernel
theorem dX5_list_113 : decode cX5_list 113 = .ok (.iaload, 1) := by decide +kernel
theorem dX5_list_114 : decode cX5_list 114 = .ok (.goto 4, 3) := by decide +kernel
theorem dX5_list_117 : decode cX5_list 117 = .ok (.iconst (-1), 1) := by decide +kernel
theorem dX5_list_118 : decode cX5_list 118 = .ok (.iastore, 1) := by decide +kernel
theorem dX5_list_119 : decode cX5_list 119 = .ok (.iinc 7 1, 3) := by decide +kernel
theorem dX5_list_122 : decode cX5_list 122 = .ok (.goto (-106), 3) := by decide +kernel
theorem dX5_list_125 : decode cX5_list 125 = .ok (.return_, 1) := by decide +kernel
theorem dJ7_fill_53178_0 : decode cJ7_fill_53178 0 = .ok (.iconst 0, 1) := by decide +kernel
theorem dJ7_fill_53178_1 : decode cJ7_fill_53178 1 = .ok (.istore_n 2, 1) := by decide +kernel
theorem dJ7_fill_53178_2 : decode cJ7_fill_53178 2 = .ok (.aload_n 0, 1) := by decide +kernel
theorem dJ7_fill_53178_3 : decode cJ7_fill_53178 3 = .ok (.arraylength, 1) := by decide +kernel
theorem dJ7_fill_53178_4 : decode cJ7_fill_53178 4 = .ok (.istore_n 3, 1) := by decide +kernel
theorem dJ7_fill_53178_5 : decode cJ7_fill_53178 5 = .ok (.iload_n 2, 1) := by decide +kernel
theorem dJ7_fill_53178_6 : decode cJ7_fill_53178 6 = .ok (.iload_n 3, 1) := by decide +kernel
theorem dJ7_fill_53178_7 : decode cJ7_fill_53178 7 = .ok (.if_icmp .ge 13, 3) := by decide +kernel
theorem dJ7_fill_53178_10 : decode cJ7_fill_53178 10 = .ok (.aload_n 0, 1) := by decide +kernel
theorem dJ7_fill_53178_11 : decode cJ7_fill_53178 11 = .ok (.iload_n 2, 1) := by decide +kernel
theorem dJ7_fill_53178_12 : decode cJ7_fill_53178 12 = .ok (.iload_n 1, 1) := by decide +kernel
theorem dJ7_fill_53178_13 : decode cJ7_fill_53178 13 = .ok (.iastore, 1) := by decide +kernel
theorem dJ7_fill_53178_14 : decode cJ7_fill_53178 14 = .ok (.iinc 2 1, 3) := by decide +kernel
theorem dJ7_fill_53178_17 : decode cJ7_fill_53178 17 = .ok (.goto (-12), 3) := by decide +kernel
theorem dJ7_fill_53178_20 : decode cJ7_fill_53178 20 = .ok (.return_, 1) := by decide +kernel
theorem dX4_begin_0 : decode cX4_begin 0 = .ok (.aload_n 0, 1) := by decide +kernel
theorem dX4_begin_1 : decode cX4_begin 1 = .ok (.aload_n 1, 1) := by decide +kernel
theorem dX4_begin_2 : decode cX4_begin 2 = .ok (.putfield 18, 3) := by decide +kernel
theorem dX4_begin_5 : decode cX4_begin 5 = .ok (.aload_n 0, 1) := by decide +kernel
theorem dX4_begin_6 : decode cX4_begin 6 = .ok (.getfield 25, 3) := by decide +kernel
theorem dX4_begin_9 : decode cX4_begin 9 = .ok (.aload_n 0, 1) := by decide +kernel
theorem dX4_begin_10 : decode cX4_begin 10 = .ok (.getfield 18, 3) := by decide +kernel
theorem dX4_begin_13 : decode cX4_begin 13 = .ok (.getfield 68, 3) := by decide +kernel
theorem dX4_begin_16 : decode cX4_begin 16 = .ok (.getfield 72, 3) := by decide +kernel
theorem dX4_begin_19 : decode cX4_begin 19 = .ok (.aload_n 0, 1) := by decide +kernel
theorem dX4_begin_20 : decode cX4_begin 20 = .ok (.getfield 18, 3) := by decide +kernel
theorem dX4_begin_23 : decode cX4_begin 23 = .ok (.getfield 68, 3) := by decide +kernel
theorem dX4_begin_26 : decode cX4_begin 26 = .ok (.getfield 78, 3) := by decide +kernel
theorem dX4_begin_29 : decode cX4_begin 29 = .ok (.aload_n 0, 1) := by decide +kernel
theorem dX4_begin_30 : decode cX4_begin 30 = .ok (.getfield 18, 3) := by decide +kernel
theorem dX4_begin_33 : decode cX4_begin 33 = .ok (.getfield 68, 3) := by decide +kernel
theorem dX4_begin_36 : decode cX4_begin 36 = .ok (.getfield 81, 3) := by decide +kernel
theorem dX4_begin_39 : decode cX4_begin 39 = .ok (.ifCond .ne 7, 3) := by decide +kernel
theorem dX4_begin_42 : decode cX4_begin 42 = .ok (.iconst 1, 1) := by decide +kernel
theorem dX4_begin_43 : decode cX4_begin 43 = .ok (.goto 4, 3) := by decide +kernel
theorem dX4_begin_46 : decode cX4_begin 46 = .ok (.iconst 0, 1) := by decide +kernel
theorem dX4_begin_47 : decode cX4_begin 47 = .ok (.aload_n 0, 1) := by decide +kernel
theorem dX4_begin_48 : decode cX4_begin 48 = .ok (.getfield 9, 3) := by decide +kernel
theorem dX4_begin_51 : decode cX4_begin 51 = .ok (.invokevirtual 85, 3) := by decide +kernel
theorem dX4_begin_54 : decode cX4_begin 54 = .ok (.aload_n 0, 1) := by decide +kernel
theorem dX4_begin_55 : decode cX4_begin 55 = .ok (.getfield 46, 3) := by decide +kernel
theorem dX4_begin_58 : decode cX4_begin 58 = .ok (.iconst 0, 1) := by decide +kernel
theorem dX4_begin_59 : decode cX4_begin 59 = .ok (.putfield 89, 3) := by decide +kernel
theorem dX4_begin_62 : decode cX4_begin 62 = .ok (.iconst 0, 1) := by decide +kernel
theorem dX4_begin_63 : decode cX4_begin 63 = .ok (.istore_n 2, 1) := by decide +kernel
theorem dX4_begin_64 : decode cX4_begin 64 = .ok (.iload_n 2, 1) := by decide +kernel
theorem dX4_begin_65 : decode cX4_begin 65 = .ok (.iconst 4, 1) := by decide +kernel
theorem dX4_begin_66 : decode cX4_begin 66 = .ok (.if_icmp .ge 18, 3) := by decide +kernel
theorem dX4_begin_69 : decode cX4_begin 69 = .ok (.aload_n 0, 1) := by decide +kernel
theorem dX4_begin_70 : decode cX4_begin 70 = .ok (.getfield 55, 3) := by decide +kernel
theorem dX4_begin_73 : decode cX4_begin 73 = .ok (.iload_n 2, 1) := by decide +kernel
theorem dX4_begin_74 : decode cX4_begin 74 = .ok (.aaload, 1) := by decide +kernel
theorem dX4_begin_75 : decode cX4_begin 75 = .ok (.invokevirtual 92, 3) := by decide +kernel
theorem dX4_begin_78 : decode cX4_begin 78 = .ok (.iinc 2 1, 3) := by decide +kernel
theorem dX4_begin_81 : decode cX4_begin 81 = .ok (.goto (-17), 3) := by decide +kernel
theorem dX4_begin_84 : decode cX4_begin 84 = .ok (.aload_n 0, 1) := by decide +kernel
theorem dX4_begin_85 : decode cX4_begin 85 = .ok (.getfield 59, 3) := by decide +kernel
theorem dX4_begin_88 : decode cX4_begin 88 = .ok (.bipush (-3), 2) := by decide +kernel
theorem dX4_begin_90 : decode cX4_begin 90 = .ok (.invokestatic 95, 3) := by decide +kernel
theorem dX4_begin_93 : decode cX4_begin 93 = .ok (.aload_n 0, 1) := by decide +kernel
theorem dX4_begin_94 : decode cX4_begin 94 = .ok (.getfield 62, 3) := by decide +kernel
theorem dX4_begin_97 : decode cX4_begin 97 = .ok (.bipush (-3), 2) := by decide +kernel
theorem dX4_begin_99 : decode cX4_begin 99 = .ok (.invokestatic 95, 3) := by decide +kernel
theorem dX4_begin_102 : decode cX4_begin 102 = .ok (.aload_n 0, 1) := by decide +kernel
theorem dX4_begin_103 : decode cX4_begin 103 = .ok (.bipush (-3), 2) := by decide +kernel
theorem dX4_begin_105 : decode cX4_begin 105 = .ok (.putfield 101, 3) := by decide +kernel
theorem dX4_begin_108 : decode cX4_begin 108 = .ok (.return_, 1) := by decide +kernel
theorem dX4_tableRow_0 : decode cX4_tableRow 0 = .ok (.aload_n 0, 1) := by decide +kernel
theorem dX4_tableRow_1 : decode cX4_tableRow 1 = .ok (.getfield 46, 3) := by decide +kernel
theorem dX4_tableRow_4 : decode cX4_tableRow 4 = .ok (.getfield 156, 3) := by decide +kernel
theorem dX4_tableRow_7 : decode cX4_tableRow 7 = .ok (.ifCond .eq 22, 3) := by decide +kernel
theorem dX4_tableRow_10 : decode cX4_tableRow 10 = .ok (.iload_n 1, 1) := by decide +kernel
theorem dX4_tableRow_11 : decode cX4_tableRow 11 = .ok (.sipush 300, 3) := by decide +kernel
theorem dX4_tableRow_14 : decode cX4_tableRow 14 = .ok (.if_icmp .ge 15, 3) := by decide +kernel
theorem dX4_tableRow_17 : decode cX4_tableRow 17 = .ok (.aload_n 0, 1) := by decide +kernel
theorem dX4_tableRow_18 : decode cX4_tableRow 18 = .ok (.getfield 46, 3) := by decide +kernel
theorem dX4_tableRow_21 : decode cX4_tableRow 21 = .ok (.getfield 159, 3) := by decide +kernel
theorem dX4_tableRow_24 : decode cX4_tableRow 24 = .ok (.iload_n 1, 1) := by decide +kernel
theorem dX4_tableRow_25 : decode cX4_tableRow 25 = .ok (.iaload, 1) := by decide +kernel
theorem dX4_tableRow_26 : decode cX4_tableRow 26 = .ok (.goto 5, 3) := by decide +kernel
theorem dX4_tableRow_29 : decode cX4_tableRow 29 = .ok (.bipush (-2), 2) := by decide +kernel
theorem dX4_tableRow_31 : decode cX4_tableRow 31 = .ok (.ireturn, 1) := by decide +kernel
theorem dX4_rowFor_0 : decode cX4_rowFor 0 = .ok (.iload_n 1, 1) := by decide +kernel
theorem dX4_rowFor_1 : decode cX4_rowFor 1 = .ok (.bipush 21, 2) := by decide +kernel
theorem dX4_rowFor_3 : decode cX4_rowFor 3 = .ok (.if_icmp .ne 9, 3) := by decide +kernel
theorem dX4_rowFor_6 : decode cX4_rowFor 6 = .ok (.aload_n 0, 1) := by decide +kernel
theorem dX4_rowFor_7 : decode cX4_rowFor 7 = .ok (.iload_n 2, 1) := by decide +kernel
theorem dX4_rowFor_8 : decode cX4_rowFor 8 = .ok (.invokevirtual 126, 3) := by decide +kernel
theorem dX4_rowFor_11 : decode cX4_rowFor 11 = .ok (.ireturn, 1) := by decide +kernel
theorem dX4_rowFor_12 : decode cX4_rowFor 12 = .ok (.iload_n 1, 1) := by decide +kernel
theorem dX4_rowFor_13 : decode cX4_rowFor 13 = .ok (.bipush 20, 2) := by decide +kernel
theorem dX4_rowFor_15 : decode cX4_rowFor 15 = .ok (.if_icmp .ne 26, 3) := by decide +kernel
theorem dX4_rowFor_18 : decode cX4_rowFor 18 = .ok (.aload_n 0, 1) := by decide +kernel
theorem dX4_rowFor_19 : decode cX4_rowFor 19 = .ok (.getfield 32, 3) := by decide +kernel
theorem dX4_rowFor_22 : decode cX4_rowFor 22 = .ok (.aload_n 0, 1) := by decide +kernel
theorem dX4_rowFor_23 : decode cX4_rowFor 23 = .ok (.getfield 18, 3) := by decide +kernel
theorem dX4_rowFor_26 : decode cX4_rowFor 26 = .ok (.getfield 68, 3) := by decide +kernel
theorem dX4_rowFor_29 : decode cX4_rowFor 29 = .ok (.aload_n 0, 1) := by decide +kernel
theorem dX4_rowFor_30 : decode cX4_rowFor 30 = .ok (.getfield 9, 3) := by decide +kernel
theorem dX4_rowFor_33 : decode cX4_rowFor 33 = .ok (.iload_n 2, 1) := by decide +kernel
theorem dX4_rowFor_34 : decode cX4_rowFor 34 = .ok (.iaload, 1) := by decide +kernel
theorem dX4_rowFor_35 : decode cX4_rowFor 35 = .ok (.invokevirtual 130, 3) := by decide +kernel
theorem dX4_rowFor_38 : decode cX4_rowFor 38 = .ok (.goto 24, 3) := by decide +kernel
theorem dX4_rowFor_41 : decode cX4_rowFor 41 = .ok (.aload_n 0, 1) := by decide +kernel
theorem dX4_rowFor_42 : decode cX4_rowFor 42 = .ok (.getfield 32, 3) := by decide +kernel
theorem dX4_rowFor_45 : decode cX4_rowFor 45 = .ok (.aload_n 0, 1) := by decide +kernel
theorem dX4_rowFor_46 : decode cX4_rowFor 46 = .ok (.getfield 18, 3) := by decide +kernel
theorem dX4_rowFor_49 : decode cX4_rowFor 49 = .ok (.getfield 68, 3) := by decide +kernel
theorem dX4_rowFor_52 : decode cX4_rowFor 52 = .ok (.aload_n 0, 1) := by decide +kernel
theorem dX4_rowFor_53 : decode cX4_rowFor 53 = .ok (.getfield 9, 3) := by decide +kernel
theorem dX4_rowFor_56 : decode cX4_rowFor 56 = .ok (.iload_n 2, 1) := by decide +kernel
theorem dX4_rowFor_57 : decode cX4_rowFor 57 = .ok (.iaload, 1) := by decide +kernel
theorem dX4_rowFor_58 : decode cX4_rowFor 58 = .ok (.iload_n 1, 1) := by decide +kernel
theorem dX4_rowFor_59 : decode cX4_rowFor 59 = .ok (.invokevirtual 134, 3) := by decide +kernel
theorem dX4_rowFor_62 : decode cX4_rowFor 62 = .ok (.ireturn, 1) := by decide +kernel
theorem dX8_slotOf_0 : decode cX8_slotOf 0 = .ok (.iload_n 1, 1) := by decide +kernel
theorem dX8_slotOf_1 : decode cX8_slotOf 1 = .ok (.ldc 25, 2) := by decide +kernel
theorem dX8_slotOf_3 : decode cX8_slotOf 3 = .ok (.imul, 1) := by decide +kernel
theorem dX8_slotOf_4 : decode cX8_slotOf 4 = .ok (.bipush 20, 2) := by decide +kernel
theorem dX8_slotOf_6 : decode cX8_slotOf 6 = .ok (.iushr, 1) := by decide +kernel
theorem dX8_slotOf_7 : decode cX8_slotOf 7 = .ok (.istore_n 2, 1) := by decide +kernel
theorem dX8_slotOf_8 : decode cX8_slotOf 8 = .ok (.iconst 0, 1) := by decide +kernel
theorem dX8_slotOf_9 : decode cX8_slotOf 9 = .ok (.istore_n 3, 1) := by decide +kernel
theorem dX8_slotOf_10 : decode cX8_slotOf 10 = .ok (.iload_n 3, 1) := by decide +kernel
theorem dX8_slotOf_11 : decode cX8_slotOf 11 = .ok (.sipush 4096, 3) := by decide +kernel
theorem dX8_slotOf_14 : decode cX8_slotOf 14 = .ok (.if_icmp .ge 42, 3) := by decide +kernel
theorem dX8_slotOf_17 : decode cX8_slotOf 17 = .ok (.aload_n 0, 1) := by decide +kernel
theorem dX8_slotOf_18 : decode cX8_slotOf 18 = .ok (.getfield 18, 3) := by decide +kernel
theorem dX8_slotOf_21 : decode cX8_slotOf 21 = .ok (.iload_n 2, 1) := by decide +kernel
theorem dX8_slotOf_22 : decode cX8_slotOf 22 = .ok (.iaload, 1) := by decide +kernel
theorem dX8_slotOf_23 : decode cX8_slotOf 23 = .ok (.aload_n 0, 1) := by decide +kernel
theorem dX8_slotOf_24 : decode cX8_slotOf 24 = .ok (.getfield 21, 3) := by decide +kernel
theorem dX8_slotOf_27 : decode cX8_slotOf 27 = .ok (.if_icmp .ne 13, 3) := by decide +kernel
theorem dX8_slotOf_30 : decode cX8_slotOf 30 = .ok (.aload_n 0, 1) := by decide +kernel
theorem dX8_slotOf_31 : decode cX8_slotOf 31 = .ok (.getfield 11, 3) := by decide +kernel
theorem dX8_slotOf_34 : decode cX8_slotOf 34 = .ok (.iload_n 2, 1) := by decide +kernel
theorem dX8_slotOf_35 : decode cX8_slotOf 35 = .ok (.iaload, 1) := by decide +kernel
theorem dX8_slotOf_36 : decode cX8_slotOf 36 = .ok (.iload_n 1, 1) := by decide +kernel
theorem dX8_slotOf_37 : decode cX8_slotOf 37 = .ok (.if_icmp .ne 5, 3) := by decide +kernel
theorem dX8_slotOf_40 : decode cX8_slotOf 40 = .ok (.iload_n 2, 1) := by decide +kernel
theorem dX8_slotOf_41 : decode cX8_slotOf 41 = .ok (.ireturn, 1) := by decide +kernel
theorem dX8_slotOf_42 : decode cX8_slotOf 42 = .ok (.iload_n 2, 1) := by decide +kernel
theorem dX8_slotOf_43 : decode cX8_slotOf 43 = .ok (.iconst 1, 1) := by decide +kernel
theorem dX8_slotOf_44 : decode cX8_slotOf 44 = .ok (.iadd, 1) := by decide +kernel
theorem dX8_slotOf_45 : decode cX8_slotOf 45 = .ok (.sipush 4095, 3) := by decide +kernel
theorem dX8_slotOf_48 : decode cX8_slotOf 48 = .ok (.iand, 1) := by decide +kernel
theorem dX8_slotOf_49 : decode cX8_slotOf 49 = .ok (.istore_n 2, 1) := by decide +kernel
theorem dX8_slotOf_50 : decode cX8_slotOf 50 = .ok (.iinc 3 1, 3) := by decide +kernel
theorem dX8_slotOf_53 : decode cX8_slotOf 53 = .ok (.goto (-43), 3) := by decide +kernel
theorem dX8_slotOf_56 : decode cX8_slotOf 56 = .ok (.iconst (-1), 1) := by decide +kernel
theorem dX8_slotOf_57 : decode cX8_slotOf 57 = .ok (.ireturn, 1) := by decide +kernel
theorem dX8_put_0 : decode cX8_put 0 = .ok (.aload_n 0, 1) := by decide +kernel
theorem dX8_put_1 : decode cX8_put 1 = .ok (.iload_n 1, 1) := by decide +kernel
theorem dX8_put_2 : decode cX8_put 2 = .ok (.invokevirtual 26, 3) := by decide +kernel
theorem dX8_put_5 : decode cX8_put 5 = .ok (.istore_n 3, 1) := by decide +kernel
theorem dX8_put_6 : decode cX8_put 6 = .ok (.iload_n 3, 1) := by decide +kernel
theorem dX8_put_7 : decode cX8_put 7 = .ok (.ifCond .ge 5, 3) := by decide +kernel
theorem dX8_put_10 : decode cX8_put 10 = .ok (.iconst (-1), 1) := by decide +kernel
theorem dX8_put_11 : decode cX8_put 11 = .ok (.ireturn, 1) := by decide +kernel
theorem dX8_put_12 : decode cX8_put 12 = .ok (.aload_n 0, 1) := by decide +kernel
theorem dX8_put_13 : decode cX8_put 13 = .ok (.getfield 18, 3) := by decide +kernel
theorem dX8_put_16 : decode cX8_put 16 = .ok (.iload_n 3, 1) := by decide +kernel
theorem dX8_put_17 : decode cX8_put 17 = .ok (.iaload, 1) := by decide +kernel
theorem dX8_put_18 : decode cX8_put 18 = .ok (.aload_n 0, 1) := by decide +kernel
theorem dX8_put_19 : decode cX8_put 19 = .ok (.getfield 21, 3) := by decide +kernel
theorem dX8_put_22 : decode cX8_put 22 = .ok (.if_icmp .ne 10, 3) := by decide +kernel
theorem dX8_put_25 : decode cX8_put 25 = .ok (.aload_n 0, 1) := by decide +kernel
theorem dX8_put_26 : decode cX8_put 26 = .ok (.getfield 15, 3) := by decide +kernel
theorem dX8_put_29 : decode cX8_put 29 = .ok (.iload_n 3, 1) := by decide +kernel
theorem dX8_put_30 : decode cX8_put 30 = .ok (.iaload, 1) := by decide +kernel
theorem dX8_put_31 : decode cX8_put 31 = .ok (.ireturn, 1) := by decide +kernel
theorem dX8_put_32 : decode cX8_put 32 = .ok (.aload_n 0, 1) := by decide +kernel
theorem dX8_put_33 : decode cX8_put 33 = .ok (.getfield 18, 3) := by decide +kernel
theorem dX8_put_36 : decode cX8_put 36 = .ok (.iload_n 3, 1) := by decide +kernel
theorem dX8_put_37 : decode cX8_put 37 = .ok (.aload_n 0, 1) := by decide +kernel
theorem dX8_put_38 : decode cX8_put 38 = .ok (.getfield 21, 3) := by decide +kernel
theorem dX8_put_41 : decode cX8_put 41 = .ok (.iastore, 1) := by decide +kernel
theorem dX8_put_42 : decode cX8_put 42 = .ok (.aload_n 0, 1) := by decide +kernel
theorem dX8_put_43 : decode cX8_put 43 = .ok (.getfield 11, 3) := by decide +kernel
theorem dX8_put_46 : decode cX8_put 46 = .ok (.iload_n 3, 1) := by decide +kernel
theorem dX8_put_47 : decode cX8_put 47 = .ok (.iload_n 1, 1) := by decide +kernel
theorem dX8_put_48 : decode cX8_put 48 = .ok (.iastore, 1) := by decide +kernel
theorem dX8_put_49 : decode cX8_put 49 = .ok (.aload_n 0, 1) := by decide +kernel
theorem dX8_put_50 : decode cX8_put 50 = .ok (.getfield 15, 3) := by decide +kernel
theorem dX8_put_53 : decode cX8_put 53 = .ok (.iload_n 3, 1) := by decide +kernel
theorem dX8_put_54 : decode cX8_put 54 = .ok (.iload_n 2, 1) := by decide +kernel
theorem dX8_put_55 : decode cX8_put 55 = .ok (.iastore, 1) := by decide +kernel
theorem dX8_put_56 : decode cX8_put 56 = .ok (.iconst (-1), 1) := by decide +kernel
theorem dX8_put_57 : decode cX8_put 57 = .ok (.ireturn, 1) := by decide +kernel
theorem dX4_note_0 : decode cX4_note 0 = .ok (.aload_n 1, 1) := by decide +kernel
theorem dX4_note_1 : decode cX4_note 1 = .ok (.getfield 138, 3) := by decide +kernel
theorem dX4_note_4 : decode cX4_note 4 = .ok (.iload_n 2, 1) := by decide +kernel
theorem dX4_note_5 : decode cX4_note 5 = .ok (.iload_n 3, 1) := by decide +kernel
theorem dX4_note_6 : decode cX4_note 6 = .ok (.iastore, 1) := by decide +kernel
theorem dX4_note_7 : decode cX4_note 7 = .ok (.iload_n 3, 1) := by decide +kernel
theorem dX4_note_8 : decode cX4_note 8 = .ok (.ifCond .ge 14, 3) := by decide +kernel
theorem dX4_note_11 : decode cX4_note 11 = .ok (.aload_n 1, 1) := by decide +kernel
theorem dX4_note_12 : decode cX4_note 12 = .ok (.dup, 1) := by decide +kernel
theorem dX4_note_13 : decode cX4_note 13 = .ok (.getfield 141, 3) := by decide +kernel
theorem dX4_note_16 : decode cX4_note 16 = .ok (.iconst 1, 1) := by decide +kernel
theorem dX4_note_17 : decode cX4_note 17 = .ok (.iadd, 1) := by decide +kernel
theorem dX4_note_18 : decode cX4_note 18 = .ok (.putfield 141, 3) := by decide +kernel
theorem dX4_note_21 : decode cX4_note 21 = .ok (.return_, 1) := by decide +kernel
theorem dX4_note_22 : decode cX4_note 22 = .ok (.aload_n 0, 1) := by decide +kernel
theorem dX4_note_23 : decode cX4_note 23 = .ok (.getfield 39, 3) := by decide +kernel
theorem dX4_note_26 : decode cX4_note 26 = .ok (.iload_n 3, 1) := by decide +kernel
theorem dX4_note_27 : decode cX4_note 27 = .ok (.iload_n 2, 1) := by decide +kernel
theorem dX4_note_28 : decode cX4_note 28 = .ok (.invokevirtual 144, 3) := by decide +kernel
theorem dX4_note_31 : decode cX4_note 31 = .ok (.istore 4, 2) := by decide +kernel
theorem dX4_note_33 : decode cX4_note 33 = .ok (.iload 4, 2) := by decide +kernel
theorem dX4_note_35 : decode cX4_note 35 = .ok (.ifCond .ge 16, 3) := by decide +kernel
theorem dX4_note_38 : decode cX4_note 38 = .ok (.aload_n 1, 1) := by decide +kernel
theorem dX4_note_39 : decode cX4_note 39 = .ok (.dup, 1) := by decide +kernel
theorem dX4_note_40 : decode cX4_note 40 = .ok (.getfield 147, 3) := by decide +kernel
theorem dX4_note_43 : decode cX4_note 43 = .ok (.iconst 1, 1) := by decide +kernel
theorem dX4_note_44 : decode cX4_note 44 = .ok (.iadd, 1) := by decide +kernel
theorem dX4_note_45 : decode cX4_note 45 = .ok (.putfield 147, 3) := by decide +kernel
theorem dX4_note_48 : decode cX4_note 48 = .ok (.goto 21, 3) := by decide +kernel
theorem dX4_note_51 : decode cX4_note 51 = .ok (.aload_n 1, 1) := by decide +kernel
theorem dX4_note_52 : decode cX4_note 52 = .ok (.getfield 150, 3) := by decide +kernel
theorem dX4_note_55 : decode cX4_note 55 = .ok (.ifCond .ge 14, 3) := by decide +kernel
theorem dX4_note_58 : decode cX4_note 58 = .ok (.aload_n 1, 1) := by decide +kernel
theorem dX4_note_59 : decode cX4_note 59 = .ok (.iload_n 2, 1) := by decide +kernel
theorem dX4_note_60 : decode cX4_note 60 = .ok (.putfield 150, 3) := by decide +kernel
theorem dX4_note_63 : decode cX4_note 63 = .ok (.aload_n 1, 1) := by decide +kernel
theorem dX4_note_64 : decode cX4_note 64 = .ok (.iload 4, 2) := by decide +kernel
theorem dX4_note_66 : decode cX4_note 66 = .ok (.putfield 153, 3) := by decide +kernel
theorem dX4_note_69 : decode cX4_note 69 = .ok (.return_, 1) := by decide +kernel
theorem dX4_firstLaid_0 : decode cX4_firstLaid 0 = .ok (.iconst 0, 1) := by decide +kernel
theorem dX4_firstLaid_1 : decode cX4_firstLaid 1 = .ok (.istore_n 3, 1) := by decide +kernel
theorem dX4_firstLaid_2 : decode cX4_firstLaid 2 = .ok (.iload_n 3, 1) := by decide +kernel
theorem dX4_firstLaid_3 : decode cX4_firstLaid 3 = .ok (.aload_n 0, 1) := by decide +kernel
theorem dX4_firstLaid_4 : decode cX4_firstLaid 4 = .ok (.getfield 18, 3) := by decide +kernel
theorem dX4_firstLaid_7 : decode cX4_firstLaid 7 = .ok (.getfield 68, 3) := by decide +kernel
theorem dX4_firstLaid_10 : decode cX4_firstLaid 10 = .ok (.getfield 115, 3) := by decide +kernel
theorem dX4_firstLaid_13 : decode cX4_firstLaid 13 = .ok (.if_icmp .ge 21, 3) := by decide +kernel
theorem dX4_firstLaid_16 : decode cX4_firstLaid 16 = .ok (.aload_n 1, 1) := by decide +kernel
theorem dX4_firstLaid_17 : decode cX4_firstLaid 17 = .ok (.getfield 138, 3) := by decide +kernel
theorem dX4_firstLaid_20 : decode cX4_firstLaid 20 = .ok (.iload_n 3, 1) := by decide +kernel
theorem dX4_firstLaid_21 : decode cX4_firstLaid 21 = .ok (.iaload, 1) := by decide +kernel
theorem dX4_firstLaid_22 : decode cX4_firstLaid 22 = .ok (.iload_n 2, 1) := by decide +kernel
theorem dX4_firstLaid_23 : decode cX4_firstLaid 23 = .ok (.if_icmp .ne 5, 3) := by decide +kernel
theorem dX4_firstLaid_26 : decode cX4_firstLaid 26 = .ok (.iload_n 3, 1) := by decide +kernel
theorem dX4_firstLaid_27 : decode cX4_firstLaid 27 = .ok (.ireturn, 1) := by decide +kernel
theorem dX4_firstLaid_28 : decode cX4_firstLaid 28 = .ok (.iinc 3 1, 3) := by decide +kernel
theorem dX4_firstLaid_31 : decode cX4_firstLaid 31 = .ok (.goto (-29), 3) := by decide +kernel
theorem dX4_firstLaid_34 : decode cX4_firstLaid 34 = .ok (.bipush (-2), 2) := by decide +kernel
theorem dX4_firstLaid_36 : decode cX4_firstLaid 36 = .ok (.ireturn, 1) := by decide +kernel
theorem dX4_failedHand_0 : decode cX4_failedHand 0 = .ok (.iload_n 2, 1) := by decide +kernel
theorem dX4_failedHand_1 : decode cX4_failedHand 1 = .ok (.ifCond .lt 11, 3) := by decide +kernel
theorem dX4_failedHand_4 : decode cX4_failedHand 4 = .ok (.iload_n 2, 1) := by decide +kernel
theorem dX4_failedHand_5 : decode cX4_failedHand 5 = .ok (.aload_n 1, 1) := by decide +kernel
theorem dX4_failedHand_6 : decode cX4_failedHand 6 = .ok (.getfield 141, 3) := by decide +kernel
theorem dX4_failedHand_9 : decode cX4_failedHand 9 = .ok (.if_icmp .lt 6, 3) := by decide +kernel
theorem dX4_failedHand_12 : decode cX4_failedHand 12 = .ok (.bipush (-2), 2) := by decide +kernel
theorem dX4_failedHand_14 : decode cX4_failedHand 14 = .ok (.ireturn, 1) := by decide +kernel
theorem dX4_failedHand_15 : decode cX4_failedHand 15 = .ok (.iload_n 2, 1) := by decide +kernel
theorem dX4_failedHand_16 : decode cX4_failedHand 16 = .ok (.istore_n 3, 1) := by decide +kernel
theorem dX4_failedHand_17 : decode cX4_failedHand 17 = .ok (.iconst 0, 1) := by decide +kernel
theorem dX4_failedHand_18 : decode cX4_failedHand 18 = .ok (.istore 4, 2) := by decide +kernel
theorem dX4_failedHand_20 : decode cX4_failedHand 20 = .ok (.iload 4, 2) := by decide +kernel
theorem dX4_failedHand_22 : decode cX4_failedHand 22 = .ok (.aload_n 0, 1) := by decide +kernel
theorem dX4_failedHand_23 : decode cX4_failedHand 23 = .ok (.getfield 18, 3) := by decide +kernel
theorem dX4_failedHand_26 : decode cX4_failedHand 26 = .ok (.getfield 68, 3) := by decide +kernel
theorem dX4_failedHand_29 : decode cX4_failedHand 29 = .ok (.getfield 115, 3) := by decide +kernel
theorem dX4_failedHand_32 : decode cX4_failedHand 32 = .ok (.if_icmp .ge 29, 3) := by decide +kernel
theorem dX4_failedHand_35 : decode cX4_failedHand 35 = .ok (.aload_n 1, 1) := by decide +kernel
theorem dX4_failedHand_36 : decode cX4_failedHand 36 = .ok (.getfield 138, 3) := by decide +kernel
theorem dX4_failedHand_39 : decode cX4_failedHand 39 = .ok (.iload 4, 2) := by decide +kernel
theorem dX4_failedHand_41 : decode cX4_failedHand 41 = .ok (.iaload, 1) := by decide +kernel
theorem dX4_failedHand_42 : decode cX4_failedHand 42 = .ok (.ifCond .ge 13, 3) := by decide +kernel
theorem dX4_failedHand_45 : decode cX4_failedHand 45 = .ok (.iload_n 3, 1) := by decide +kernel
theorem dX4_failedHand_46 : decode cX4_failedHand 46 = .ok (.ifCond .ne 6, 3) := by decide +kernel
theorem dX4_failedHand_49 : decode cX4_failedHand 49 = .ok (.iload 4, 2) := by decide +kernel
theorem dX4_failedHand_51 : decode cX4_failedHand 51 = .ok (.ireturn, 1) := by decide +kernel
theorem dX4_failedHand_52 : decode cX4_failedHand 52 = .ok (.iinc 3 (-1), 3) := by decide +kernel
theorem dX4_failedHand_55 : decode cX4_failedHand 55 = .ok (.iinc 4 1, 3) := by decide +kernel
theorem dX4_failedHand_58 : decode cX4_failedHand 58 = .ok (.goto (-38), 3) := by decide +kernel
theorem dX4_failedHand_61 : decode cX4_failedHand 61 = .ok (.bipush (-2), 2) := by decide +kernel
theorem dX4_failedHand_63 : decode cX4_failedHand 63 = .ok (.ireturn, 1) := by decide +kernel
theorem dX8_clear_0 : decode cX8_clear 0 = .ok (.aload_n 0, 1) := by decide +kernel
theorem dX8_clear_1 : decode cX8_clear 1 = .ok (.dup, 1) := by decide +kernel
theorem dX8_clear_2 : decode cX8_clear 2 = .ok (.getfield 21, 3) := by decide +kernel
theorem dX8_clear_5 : decode cX8_clear 5 = .ok (.iconst 1, 1) := by decide +kernel
theorem dX8_clear_6 : decode cX8_clear 6 = .ok (.iadd, 1) := by decide +kernel
theorem dX8_clear_7 : decode cX8_clear 7 = .ok (.putfield 21, 3) := by decide +kernel
theorem dX8_clear_10 : decode cX8_clear 10 = .ok (.return_, 1) := by decide +kernel
set_option maxHeartbeats 4000000 in
set_option maxRecDepth 100000 in
theorem sX5_following {l : Launch} {D : va_G} {cA : Nat → ClassId} {base : Nat} {sA : Nat → Nat} {r0 : Nat} {x1 : Int32} {x2 : Int32} {x3 : Int32} {h hE : Zh} {rE : Int32} (hf : fX5_following r0 x1 x2 x3 h = some (rE, hE)) : zC l yX5_following cX5_following 6 (some .int) 0 0 D cA base sA [.ref (base + r0), .int x1, .int x2, .int x3] h (some (.int rE)) hE := by
  refine g_entry RX5 (by decide) rfl (Nat.le_of_ble_eq_true rfl) ?_
  intro p e s m args below meth c X hr
  unfold fX5_following at hf
  have hf := zlet_n (x := h) rfl hf
  show zG p l e { frames := 0, cells := 0, slots := 0, locals := 0 } s m args below meth c (MQ below (zQ D cA base h hE (some (.int rE))) args s 0 0 (zA base)) 6 D cA base h 0 [(0, .ref (base + r0)), (1, .int x1), (2, .int x2), (3, .int x3)] [] h
  refine g_iconst X (v := 0) dX5_following_0 (by decide) ?_
  refine g_istore X [(4, .int ((0 : Int32))), (0, .ref (base + r0)), (1, .int x1), (2, .int x2), (3, .int x3)] dX5_following_1 (by decide) rfl ?_
  refine g_iconst X (v := 0) dX5_following_3 (by decide) ?_
  refine g_istore X [(5, .int ((0 : Int32))), (4, .int ((0 : Int32))), (0, .ref (base + r0)), (1, .int x1), (2, .int x2), (3, .int x3)] dX5_following_4 (by decide) rfl ?_
  refine g_sub [2, 3, 4, 5, 1, 0] rfl ?_
  obtain ⟨qq, hlp, hf⟩ := zbd hf
  refine lp_snd (body := (fun q : Int32 × Int32 × Zh => bX5_following_6 h r0 x2 x3 q.1 q.2.1 q.2.2)) (P := (fun q : Int32 × Int32 × Zh => zG p l e { frames := 0, cells := 0, slots := 0, locals := 0 } s m args below meth c (MQ below (zQ D cA base h hE (some (.int rE))) args s 0 0 (zA base)) 6 D cA base h 6 [(0, .ref (base + r0)), (1, .int x1), (2, .int x2), (3, .int x3), (4, .int q.1), (5, .int q.2.1)] [] q.2.2)) (E := (fun (en : Nat) (q : Int32 × Int32 × Zh) => zG p l e { frames := 0, cells := 0, slots := 0, locals := 0 } s m args below meth c (MQ below (zQ D cA base h hE (some (.int rE))) args s 0 0 (zA base)) 6 D cA base h 36 [(0, .ref (base + r0)), (1, .int x1), (2, .int x2), (4, .int q.1)] [] q.2.2)) ?_ zB ((0 : Int32), ((0 : Int32), h)) qq.1 qq.2 hlp ?_
  · intro q e_6 q_6 hf hc0 hc1
    obtain ⟨x4_6, x5_6, h_6⟩ := q
    have hf : bX5_following_6 h r0 x2 x3 x4_6 x5_6 h_6 = some (e_6, q_6) := hf
    unfold bX5_following_6 at hf
    show zG p l e { frames := 0, cells := 0, slots := 0, locals := 0 } s m args below meth c (MQ below (zQ D cA base h hE (some (.int rE))) args s 0 0 (zA base)) 6 D cA base h 6 [(0, .ref (base + r0)), (1, .int x1), (2, .int x2), (3, .int x3), (4, .int x4_6), (5, .int x5_6)] [] h_6
    refine g_iload X 5 dX5_following_6 rfl ?_
    refine g_iload_n X 2 dX5_following_8 rfl ?_
    refine g_icmp_ge X 36 dX5_following_9 (by decide) (fun hq => ?_) (fun hq => ?_)
    · have hf := zpos hq hf
      cases hf
      have hc1 := hc1 (by decide)
      exact g_sub [0, 1, 2, 4] rfl hc1
    · have hf := zneg hq hf
      refine g_iload_n X 3 dX5_following_12 rfl ?_
      refine g_if_ne X 36 dX5_following_13 (by decide) (fun hq => ?_) (fun hq => ?_)
      · have hf := zneg hq hf
        cases hf
        have hc1 := hc1 (by decide)
        exact g_sub [0, 1, 2, 4] rfl hc1
      · have hf := zpos hq hf
        refine g_iload X 4 dX5_following_16 rfl ?_
        refine g_iconst X (v := 1) dX5_following_18 (by decide) ?_
        refine g_aload_n X 0 dX5_following_19 rfl ?_
        obtain ⟨hk1, hf⟩ := zite hf
        obtain ⟨r_2, hr_2, hf⟩ := zbd hf
        refine g_get X zf5 hk1 0 (by decide) w_f_RX5_9 rfl (zfv_r hr_2 rfl) dX5_following_20 ?_
        refine g_iload X 5 dX5_following_23 rfl ?_
        obtain ⟨hk3, hf⟩ := zite hf
        obtain ⟨hi4, hf⟩ := zite hf
        refine g_iald X hk3 hi4 dX5_following_25 ?_
        refine g_ishl X dX5_following_26 ?_
        refine g_ior X dX5_following_27 ?_
        refine g_topi (fun y5 ey5 => ?_)
        have hf := zlet_n ey5 hf
        refine g_istore X [(4, .int y5), (0, .ref (base + r0)), (1, .int x1), (2, .int x2), (3, .int x3), (5, .int x5_6)] dX5_following_28 (by decide) rfl ?_
        obtain ⟨y6, ey6⟩ : ∃ y : Int32, y = x5_6 + (1 : Int32) := ⟨_, rfl⟩
        have hf := zlet_n ey6 hf
        refine g_iinc X (j := 5) [(5, .int y6), (4, .int y5), (0, .ref (base + r0)), (1, .int x1), (2, .int x2), (3, .int x3)] dX5_following_30 rfl (by rw [ey6]; rfl) (by decide) rfl ?_
        refine g_goto X 6 dX5_following_33 (by decide) ?_
        cases hf
        exact g_sub [2, 3, 4, 5, 1, 0] rfl (hc0 rfl)
  · obtain ⟨ee, x4_k6, x5_k6, h_k6⟩ := qq
    have hf : kX5_following_6 h r0 x1 x2 ee x4_k6 x5_k6 h_k6 = some (rE, hE) := hf
    unfold kX5_following_6 at hf
    show zG p l e { frames := 0, cells := 0, slots := 0, locals := 0 } s m args below meth c (MQ below (zQ D cA base h hE (some (.int rE))) args s 0 0 (zA base)) 6 D cA base h 36 [(0, .ref (base + r0)), (1, .int x1), (2, .int x2), (4, .int x4_k6)] [] h_k6
    refine g_aload_n X 0 dX5_following_36 rfl ?_
    obtain ⟨hk7, hf⟩ := zite hf
    obtain ⟨r_8, hr_8, hf⟩ := zbd hf
    refine g_get X zf5 hk7 0 (by decide) w_f_RX5_9 rfl (zfv_r hr_8 rfl) dX5_following_37 ?_
    refine g_iload_n X 2 dX5_following_40 rfl ?_
    obtain ⟨hk9, hf⟩ := zite hf
    obtain ⟨hi10, hf⟩ := zite hf
    refine g_iald X hk9 hi10 dX5_following_41 ?_
    refine g_iconst X (v := 1) dX5_following_42 (by decide) ?_
    refine g_iadd X dX5_following_43 ?_
    refine g_topi (fun y11 ey11 => ?_)
    have hf := zlet_n ey11 hf
    refine g_istore X [(5, .int y11), (0, .ref (base + r0)), (1, .int x1), (2, .int x2), (4, .int x4_k6)] dX5_following_44 (by decide) rfl ?_
    refine g_sub [2, 4, 0] rfl ?_
    obtain ⟨qq, hlp, hf⟩ := zbd hf
    refine lp_snd (body := (fun q : Int32 × Zh => bX5_following_46 h x1 x4_k6 q.1 q.2)) (P := (fun q : Int32 × Zh => zG p l e { frames := 0, cells := 0, slots := 0, locals := 0 } s m args below meth c (MQ below (zQ D cA base h hE (some (.int rE))) args s 0 0 (zA base)) 6 D cA base h 46 [(1, .int x1), (4, .int x4_k6), (5, .int q.1)] [] q.2)) (E := (fun (en : Nat) (q : Int32 × Zh) => if en = 1 then zG p l e { frames := 0, cells := 0, slots := 0, locals := 0 } s m args below meth c (MQ below (zQ D cA base h hE (some (.int rE))) args s 0 0 (zA base)) 6 D cA base h 62 [(5, .int q.1)] [] q.2 else zG p l e { frames := 0, cells := 0, slots := 0, locals := 0 } s m args below meth c (MQ below (zQ D cA base h hE (some (.int rE))) args s 0 0 (zA base)) 6 D cA base h 71 [(1, .int x1)] [] q.2)) ?_ zB (y11, h_k6) qq.1 qq.2 hlp ?_
    · intro q e_46 q_46 hf hc0 hc1
      obtain ⟨x5_46, h_46⟩ := q
      have hf : bX5_following_46 h x1 x4_k6 x5_46 h_46 = some (e_46, q_46) := hf
      unfold bX5_following_46 at hf
      show zG p l e { frames := 0, cells := 0, slots := 0, locals := 0 } s m args below meth c (MQ below (zQ D cA base h hE (some (.int rE))) args s 0 0 (zA base)) 6 D cA base h 46 [(1, .int x1), (4, .int x4_k6), (5, .int x5_46)] [] h_46
      refine g_iload X 2 dX5_following_46 rfl ?_
      refine g_iload_n X 0 dX5_following_48 rfl ?_
      refine g_icmp_ge X 71 dX5_following_49 (by decide) (fun hq => ?_) (fun hq => ?_)
      · have hf := zpos hq hf
        cases hf
        have hc1 := hc1 (by decide)
        exact g_sub [0] rfl (zun_n (by decide) hc1)
      · have hf := zneg hq hf
        refine g_iload X 1 dX5_following_52 rfl ?_
        refine g_iload X 2 dX5_following_54 rfl ?_
        refine g_ishr X dX5_following_56 ?_
        refine g_iconst X (v := 1) dX5_following_57 (by decide) ?_
        refine g_iand X dX5_following_58 ?_
        refine g_if_ne X 65 dX5_following_59 (by decide) (fun hq => ?_) (fun hq => ?_)
        · have hf := zneg hq hf
          obtain ⟨y12, ey12⟩ : ∃ y : Int32, y = x5_46 + (1 : Int32) := ⟨_, rfl⟩
          have hf := zlet_n ey12 hf
          refine g_iinc X (j := 2) [(5, .int y12), (1, .int x1), (4, .int x4_k6)] dX5_following_65 rfl (by rw [ey12]; rfl) (by decide) rfl ?_
          refine g_goto X 46 dX5_following_68 (by decide) ?_
          cases hf
          exact g_sub [1, 2, 0] rfl (hc0 rfl)
        · have hf := zpos hq hf
          cases hf
          have hc1 := hc1 (by decide)
          exact g_sub [2] rfl (zun_p rfl hc1)
    · obtain ⟨ee, x5_k46, h_k46⟩ := qq
      have hf : kX5_following_46 h x1 ee x5_k46 h_k46 = some (rE, hE) := hf
      unfold kX5_following_46 at hf
      by_cases hee0 : ee = 1
      · have hf := zpos hee0 hf
        refine zifp hee0 ?_
        show zG p l e { frames := 0, cells := 0, slots := 0, locals := 0 } s m args below meth c (MQ below (zQ D cA base h hE (some (.int rE))) args s 0 0 (zA base)) 6 D cA base h 62 [(5, .int x5_k46)] [] h_k46
        refine g_iload X 0 dX5_following_62 rfl ?_
        obtain ⟨rfl, rfl⟩ := zsm hf
        exact g_iret X hr dX5_following_64
      have hf := zneg hee0 hf
      refine zifn hee0 ?_
      show zG p l e { frames := 0, cells := 0, slots := 0, locals := 0 } s m args below meth c (MQ below (zQ D cA base h hE (some (.int rE))) args s 0 0 (zA base)) 6 D cA base h 71 [(1, .int x1)] [] h_k46
      refine g_iload_n X 0 dX5_following_71 rfl ?_
      obtain ⟨rfl, rfl⟩ := zsm hf
      exact g_iret X hr dX5_following_72

set_option maxHeartbeats 4000000 in
set_option maxRecDepth 100000 in
theorem sX5_pack {l : Launch} {D : va_G} {cA : Nat → ClassId} {base : Nat} {sA : Nat → Nat} {r0 : Nat} {x1 : Int32} {h hE : Zh} {rE : Int32} (hf : fX5_pack r0 x1 h = some (rE, hE)) : zC l yX5_pack cX5_pack 4 (some .int) 0 0 D cA base sA [.ref (base + r0), .int x1] h (some (.int rE)) hE := by
  refine g_entry RX5 (by decide) rfl (Nat.le_of_ble_eq_true rfl) ?_
  intro p e s m args below meth c X hr
  unfold fX5_pack at hf
  have hf := zlet_n (x := h) rfl hf
  show zG p l e { frames := 0, cells := 0, slots := 0, locals := 0 } s m args below meth c (MQ below (zQ D cA base h hE (some (.int rE))) args s 0 0 (zA base)) 4 D cA base h 0 [(0, .ref (base + r0)), (1, .int x1)] [] h
  refine g_iconst X (v := 0) dX5_pack_0 (by decide) ?_
  refine g_istore_n X [(2, .int ((0 : Int32))), (0, .ref (base + r0)), (1, .int x1)] dX5_pack_1 (by decide) rfl ?_
  refine g_iload_n X 2 dX5_pack_2 rfl ?_
  refine g_iconst X (v := 1) dX5_pack_3 (by decide) ?_
  refine g_isub X dX5_pack_4 ?_
  refine g_topi (fun y1 ey1 => ?_)
  have hf := zlet_n ey1 hf
  refine g_istore_n X [(3, .int y1), (2, .int ((0 : Int32))), (0, .ref (base + r0)), (1, .int x1)] dX5_pack_5 (by decide) rfl ?_
  refine g_sub [2, 1, 0] rfl ?_
  obtain ⟨qq, hlp, hf⟩ := zbd hf
  refine lp_snd (body := (fun q : Int32 × Int32 × Zh => bX5_pack_6 h r0 q.1 q.2.1 q.2.2)) (P := (fun q : Int32 × Int32 × Zh => zG p l e { frames := 0, cells := 0, slots := 0, locals := 0 } s m args below meth c (MQ below (zQ D cA base h hE (some (.int rE))) args s 0 0 (zA base)) 4 D cA base h 6 [(0, .ref (base + r0)), (2, .int q.1), (3, .int q.2.1)] [] q.2.2)) (E := (fun (en : Nat) (q : Int32 × Int32 × Zh) => zG p l e { frames := 0, cells := 0, slots := 0, locals := 0 } s m args below meth c (MQ below (zQ D cA base h hE (some (.int rE))) args s 0 0 (zA base)) 4 D cA base h 27 [(2, .int q.1)] [] q.2.2)) ?_ zB ((0 : Int32), (y1, h)) qq.1 qq.2 hlp ?_
  · intro q e_6 q_6 hf hc0 hc1
    obtain ⟨x2_6, x3_6, h_6⟩ := q
    have hf : bX5_pack_6 h r0 x2_6 x3_6 h_6 = some (e_6, q_6) := hf
    unfold bX5_pack_6 at hf
    show zG p l e { frames := 0, cells := 0, slots := 0, locals := 0 } s m args below meth c (MQ below (zQ D cA base h hE (some (.int rE))) args s 0 0 (zA base)) 4 D cA base h 6 [(0, .ref (base + r0)), (2, .int x2_6), (3, .int x3_6)] [] h_6
    refine g_iload_n X 2 dX5_pack_6 rfl ?_
    refine g_if_lt X 27 dX5_pack_7 (by decide) (fun hq => ?_) (fun hq => ?_)
    · have hf := zpos hq hf
      cases hf
      have hc1 := hc1 (by decide)
      exact g_sub [1] rfl hc1
    · have hf := zneg hq hf
      refine g_iload_n X 1 dX5_pack_10 rfl ?_
      refine g_iconst X (v := 4) dX5_pack_11 (by decide) ?_
      refine g_ishl X dX5_pack_12 ?_
      refine g_aload_n X 0 dX5_pack_13 rfl ?_
      obtain ⟨hk2, hf⟩ := zite hf
      obtain ⟨r_3, hr_3, hf⟩ := zbd hf
      refine g_get X zf5 hk2 0 (by decide) w_f_RX5_9 rfl (zfv_r hr_3 rfl) dX5_pack_14 ?_
      refine g_iload_n X 2 dX5_pack_17 rfl ?_
      obtain ⟨hk4, hf⟩ := zite hf
      obtain ⟨hi5, hf⟩ := zite hf
      refine g_iald X hk4 hi5 dX5_pack_18 ?_
      refine g_ior X dX5_pack_19 ?_
      refine g_topi (fun y6 ey6 => ?_)
      have hf := zlet_n ey6 hf
      refine g_istore_n X [(2, .int y6), (0, .ref (base + r0)), (3, .int x3_6)] dX5_pack_20 (by decide) rfl ?_
      obtain ⟨y7, ey7⟩ : ∃ y : Int32, y = x3_6 + (-1 : Int32) := ⟨_, rfl⟩
      have hf := zlet_n ey7 hf
      refine g_iinc X (j := 2) [(3, .int y7), (2, .int y6), (0, .ref (base + r0))] dX5_pack_21 rfl (by rw [ey7]; rfl) (by decide) rfl ?_
      refine g_goto X 6 dX5_pack_24 (by decide) ?_
      cases hf
      exact g_sub [2, 1, 0] rfl (hc0 rfl)
  · obtain ⟨ee, x2_k6, x3_k6, h_k6⟩ := qq
    have hf : kX5_pack_6 h ee x2_k6 x3_k6 h_k6 = some (rE, hE) := hf
    unfold kX5_pack_6 at hf
    show zG p l e { frames := 0, cells := 0, slots := 0, locals := 0 } s m args below meth c (MQ below (zQ D cA base h hE (some (.int rE))) args s 0 0 (zA base)) 4 D cA base h 27 [(2, .int x2_k6)] [] h_k6
    refine g_iload_n X 0 dX5_pack_27 rfl ?_
    obtain ⟨rfl, rfl⟩ := zsm hf
    exact g_iret X hr dX5_pack_28

set_option maxHeartbeats 4000000 in
set_option maxRecDepth 100000 in
theorem sX5_list {l : Launch} {D : va_G} {cA : Nat → ClassId} {base : Nat} {sA : Nat → Nat} {r0 : Nat} {x1 : Int32} {x2 : Int32} {x3 : Int32} {r4 : Nat} {h hE : Zh} (hf : fX5_list r0 x1 x2 x3 r4 h = some hE) : zC l yX5_list cX5_list 8 none 1 25 D cA base sA [.ref (base + r0), .int x1, .int x2, .int x3, .ref (base + r4)] h none hE := by
  refine g_entry RX5 (by decide) rfl (Nat.le_of_ble_eq_true rfl) ?_
  intro p e s m args below meth c X hr
  unfold fX5_list at hf
  have hf := zlet_n (x := h) rfl hf
  show zG p l e { frames := 1, cells := 0, slots := 0, locals := 25 } s m args below meth c (MQ below (zQ D cA base h hE none) args s 0 0 (zA base)) 8 D cA base h 0 [(0, .ref (base + r0)), (1, .int x1), (2, .int x2), (3, .int x3), (4, .ref (base + r4))] [] h
  refine g_iconst X (v := 0) dX5_list_0 (by decide) ?_
  refine g_istore X [(5, .int ((0 : Int32))), (0, .ref (base + r0)), (1, .int x1), (2, .int x2), (3, .int x3), (4, .ref (base + r4))] dX5_list_1 (by decide) rfl ?_
  refine g_iconst X (v := 0) dX5_list_3 (by decide) ?_
  refine g_istore X [(6, .int ((0 : Int32))), (5, .int ((0 : Int32))), (0, .ref (base + r0)), (1, .int x1), (2, .int x2), (3, .int x3), (4, .ref (base + r4))] dX5_list_4 (by decide) rfl ?_
  refine g_aload_n X 2 dX5_list_6 rfl ?_
  obtain ⟨hk1, hf⟩ := zite hf
  obtain ⟨r_2, hr_2, hf⟩ := zbd hf
  refine g_get X zf5 hk1 0 (by decide) w_f_RX5_9 rfl (zfv_r hr_2 rfl) dX5_list_7 ?_
  refine g_iconst X (v := 0) dX5_list_10 (by decide) ?_
  refine g_iconst X (v := -1) dX5_list_11 (by decide) ?_
  obtain ⟨hk3, hf⟩ := zite hf
  obtain ⟨hi4, hf⟩ := zite hf
  refine g_iast X hk3 hi4 dX5_list_12 ?_
  refine g_hp (fun h5 eh5 => ?_)
  have hf := zlet_n eh5 hf
  refine g_iconst X (v := 0) dX5_list_13 (by decide) ?_
  refine g_istore X [(7, .int ((0 : Int32))), (6, .int ((0 : Int32))), (5, .int ((0 : Int32))), (0, .ref (base + r0)), (1, .int x1), (2, .int x2), (3, .int x3), (4, .ref (base + r4))] dX5_list_14 (by decide) rfl ?_
  refine g_sub [3, 4, 5, 6, 7, 2, 1, 0] rfl ?_
  obtain ⟨qq, hlp, hf⟩ := zbd hf
  refine lp_snd (body := (fun q : Int32 × Int32 × Int32 × Zh => bX5_list_16 h r0 x1 x2 x3 r4 q.1 q.2.1 q.2.2.1 q.2.2.2)) (P := (fun q : Int32 × Int32 × Int32 × Zh => zG p l e { frames := 1, cells := 0, slots := 0, locals := 25 } s m args below meth c (MQ below (zQ D cA base h hE none) args s 0 0 (zA base)) 8 D cA base h 16 [(0, .ref (base + r0)), (1, .int x1), (2, .int x2), (3, .int x3), (4, .ref (base + r4)), (5, .int q.1), (6, .int q.2.1), (7, .int q.2.2.1)] [] q.2.2.2)) (E := (fun (en : Nat) (q : Int32 × Int32 × Int32 × Zh) => zG p l e { frames := 1, cells := 0, slots := 0, locals := 25 } s m args below meth c (MQ below (zQ D cA base h hE none) args s 0 0 (zA base)) 8 D cA base h 125 [] [] q.2.2.2)) ?_ zB ((0 : Int32), ((0 : Int32), ((0 : Int32), h5))) qq.1 qq.2 hlp ?_
  · intro q e_16 q_16 hf hc0 hc1
    obtain ⟨x5_16, x6_16, x7_16, h_16⟩ := q
    have hf : bX5_list_16 h r0 x1 x2 x3 r4 x5_16 x6_16 x7_16 h_16 = some (e_16, q_16) := hf
    unfold bX5_list_16 at hf
    show zG p l e { frames := 1, cells := 0, slots := 0, locals := 25 } s m args below meth c (MQ below (zQ D cA base h hE none) args s 0 0 (zA base)) 8 D cA base h 16 [(0, .ref (base + r0)), (1, .int x1), (2, .int x2), (3, .int x3), (4, .ref (base + r4)), (5, .int x5_16), (6, .int x6_16), (7, .int x7_16)] [] h_16
    refine g_iload X 7 dX5_list_16 rfl ?_
    refine g_ldc X w_c_RX5_15 dX5_list_18 ?_
    refine g_icmp_ge X 125 dX5_list_20 (by decide) (fun hq => ?_) (fun hq => ?_)
    · have hf := zpos hq hf
      cases hf
      have hc1 := hc1 (by decide)
      exact g_sub [] rfl hc1
    · have hf := zneg hq hf
      refine g_iload X 6 dX5_list_23 rfl ?_
      refine g_if_lt X 125 dX5_list_25 (by decide) (fun hq => ?_) (fun hq => ?_)
      · have hf := zpos hq hf
        cases hf
        have hc1 := hc1 (by decide)
        exact g_sub [] rfl hc1
      · have hf := zneg hq hf
        refine g_iload X 5 dX5_list_28 rfl ?_
        refine g_aload X 4 dX5_list_30 rfl ?_
        obtain ⟨hk6, hf⟩ := zite hf
        refine g_alen0 X hk6 dX5_list_32 ?_
        refine g_icmp_ge X 125 dX5_list_33 (by decide) (fun hq => ?_) (fun hq => ?_)
        · have hf := zpos hq hf
          cases hf
          have hc1 := hc1 (by decide)
          exact g_sub [] rfl hc1
        · have hf := zneg hq hf
          refine g_aload_n X 0 dX5_list_36 rfl ?_
          obtain ⟨r_7, hr_7, hf⟩ := zbd hf
          refine g_get X zf5 hk1 0 (by decide) w_f_RX5_9 rfl (zfv_r hr_7 rfl) dX5_list_37 ?_
          refine g_iload X 6 dX5_list_40 rfl ?_
          refine g_aload_n X 0 dX5_list_42 rfl ?_
          refine g_iload_n X 1 dX5_list_43 rfl ?_
          refine g_iload X 6 dX5_list_44 rfl ?_
          refine g_iload_n X 3 dX5_list_46 rfl ?_
          obtain ⟨v9, h8, hch8, hf⟩ := zc2_e hf
          refine g_callV X 3 (sX5_following hch8) zf5 hk1 ydX5_following w_ml_RX5_16 w_instanceMethod_X5_following w_sel_X5_following w_ini_RX5 w_code_X5_following (by decide) rfl (st := [.int x6_16, .ref (base + r_7)]) rfl rfl (Nat.le_of_ble_eq_true rfl) dX5_list_47 ?_
          obtain ⟨hk10, hf⟩ := zite hf
          obtain ⟨hi11, hf⟩ := zite hf
          refine g_iast X hk10 hi11 dX5_list_50 ?_
          refine g_hp (fun h12 eh12 => ?_)
          have hf := zlet_n eh12 hf
          refine g_aload_n X 0 dX5_list_51 rfl ?_
          obtain ⟨r_13, hr_13, hf⟩ := zbd hf
          refine g_get X zf5 hk1 0 (by decide) w_f_RX5_9 rfl (zfv_r hr_13 rfl) dX5_list_52 ?_
          refine g_iload X 6 dX5_list_55 rfl ?_
          obtain ⟨hk14, hf⟩ := zite hf
          obtain ⟨hi15, hf⟩ := zite hf
          refine g_iald X hk14 hi15 dX5_list_57 ?_
          refine g_iload_n X 1 dX5_list_58 rfl ?_
          refine g_icmp_lt X 68 dX5_list_59 (by decide) (fun hq => ?_) (fun hq => ?_)
          · have hf := zpos hq hf
            refine g_iload X 6 dX5_list_68 rfl ?_
            refine g_iload_n X 2 dX5_list_70 rfl ?_
            refine g_iconst X (v := 1) dX5_list_71 (by decide) ?_
            refine g_isub X dX5_list_72 ?_
            refine g_icmp_ne X 92 dX5_list_73 (by decide) (fun hq => ?_) (fun hq => ?_)
            · have hf := zneg hq hf
              obtain ⟨y16, ey16⟩ : ∃ y : Int32, y = x6_16 + (1 : Int32) := ⟨_, rfl⟩
              have hf := zlet_n ey16 hf
              refine g_iinc X (j := 6) [(6, .int y16), (0, .ref (base + r0)), (1, .int x1), (2, .int x2), (3, .int x3), (4, .ref (base + r4)), (5, .int x5_16), (7, .int x7_16)] dX5_list_92 rfl (by rw [ey16]; rfl) (by decide) rfl ?_
              refine g_aload_n X 1 dX5_list_95 rfl ?_
              obtain ⟨r_17, hr_17, hf⟩ := zbd hf
              refine g_get X zf5 hk1 0 (by decide) w_f_RX5_9 rfl (zfv_r hr_17 rfl) dX5_list_96 ?_
              refine g_iload X 0 dX5_list_99 rfl ?_
              refine g_iload_n X 4 dX5_list_101 rfl ?_
              refine g_if_eq X 117 dX5_list_102 (by decide) (fun hq => ?_) (fun hq => ?_)
              · have hf := zpos hq hf
                refine g_iconst X (v := -1) dX5_list_117 (by decide) ?_
                obtain ⟨hk18, hf⟩ := zite hf
                obtain ⟨hi19, hf⟩ := zite hf
                refine g_iast X hk18 hi19 dX5_list_118 ?_
                refine g_hp (fun h20 eh20 => ?_)
                have hf := zlet_n eh20 hf
                obtain ⟨y21, ey21⟩ : ∃ y : Int32, y = x7_16 + (1 : Int32) := ⟨_, rfl⟩
                have hf := zlet_n ey21 hf
                refine g_iinc X (j := 7) [(7, .int y21), (6, .int y16), (0, .ref (base + r0)), (1, .int x1), (2, .int x2), (3, .int x3), (4, .ref (base + r4)), (5, .int x5_16)] dX5_list_119 rfl (by rw [ey21]; rfl) (by decide) rfl ?_
                refine g_goto X 16 dX5_list_122 (by decide) ?_
                cases hf
                exact g_sub [2, 3, 4, 5, 6, 7, 1, 0] rfl (hc0 rfl)
              · have hf := zneg hq hf
                refine g_aload_n X 1 dX5_list_105 rfl ?_
                obtain ⟨r_22, hr_22, hf⟩ := zbd hf
                refine g_get X zf5 hk1 0 (by decide) w_f_RX5_9 rfl (zfv_r hr_22 rfl) dX5_list_106 ?_
                refine g_iload X 0 dX5_list_109 rfl ?_
                refine g_iconst X (v := 1) dX5_list_111 (by decide) ?_
                refine g_isub X dX5_list_112 ?_
                obtain ⟨hk23, hf⟩ := zite hf
                obtain ⟨hi24, hf⟩ := zite hf
                refine g_iald X hk23 hi24 dX5_list_113 ?_
                refine g_goto X 118 dX5_list_114 (by decide) ?_
                obtain ⟨hk25, hf⟩ := zite hf
                obtain ⟨hi26, hf⟩ := zite hf
                refine g_iast X hk25 hi26 dX5_list_118 ?_
                refine g_hp (fun h27 eh27 => ?_)
                have hf := zlet_n eh27 hf
                obtain ⟨y28, ey28⟩ : ∃ y : Int32, y = x7_16 + (1 : Int32) := ⟨_, rfl⟩
                have hf := zlet_n ey28 hf
                refine g_iinc X (j := 7) [(7, .int y28), (6, .int y16), (0, .ref (base + r0)), (1, .int x1), (2, .int x2), (3, .int x3), (4, .ref (base + r4)), (5, .int x5_16)] dX5_list_119 rfl (by rw [ey28]; rfl) (by decide) rfl ?_
                refine g_goto X 16 dX5_list_122 (by decide) ?_
                cases hf
                exact g_sub [2, 3, 4, 5, 6, 7, 1, 0] rfl (hc0 rfl)
            · have hf := zpos hq hf
              refine g_aload X 4 dX5_list_76 rfl ?_
              refine g_iload X 5 dX5_list_78 rfl ?_
              refine g_aload_n X 0 dX5_list_80 rfl ?_
              refine g_iload_n X 2 dX5_list_81 rfl ?_
              obtain ⟨v30, h29, hch29, hf⟩ := zc2_e hf
              refine g_callV X 1 (sX5_pack hch29) zf5 hk1 ydX5_pack w_ml_RX5_20 w_instanceMethod_X5_pack w_sel_X5_pack w_ini_RX5 w_code_X5_pack (by decide) rfl (st := [.int x5_16, .ref (base + r4)]) rfl rfl (Nat.le_of_ble_eq_true rfl) dX5_list_82 ?_
              obtain ⟨hi31, hf⟩ := zite hf
              refine g_iast X hk6 hi31 dX5_list_85 ?_
              refine g_hp (fun h32 eh32 => ?_)
              have hf := zlet_n eh32 hf
              obtain ⟨y33, ey33⟩ : ∃ y : Int32, y = x5_16 + (1 : Int32) := ⟨_, rfl⟩
              have hf := zlet_n ey33 hf
              refine g_iinc X (j := 5) [(5, .int y33), (0, .ref (base + r0)), (1, .int x1), (2, .int x2), (3, .int x3), (4, .ref (base + r4)), (6, .int x6_16), (7, .int x7_16)] dX5_list_86 rfl (by rw [ey33]; rfl) (by decide) rfl ?_
              refine g_goto X 119 dX5_list_89 (by decide) ?_
              obtain ⟨y34, ey34⟩ : ∃ y : Int32, y = x7_16 + (1 : Int32) := ⟨_, rfl⟩
              have hf := zlet_n ey34 hf
              refine g_iinc X (j := 7) [(7, .int y34), (5, .int y33), (0, .ref (base + r0)), (1, .int x1), (2, .int x2), (3, .int x3), (4, .ref (base + r4)), (6, .int x6_16)] dX5_list_119 rfl (by rw [ey34]; rfl) (by decide) rfl ?_
              refine g_goto X 16 dX5_list_122 (by decide) ?_
              cases hf
              exact g_sub [2, 3, 4, 5, 6, 1, 7, 0] rfl (hc0 rfl)
          · have hf := zneg hq hf
            obtain ⟨y35, ey35⟩ : ∃ y : Int32, y = x6_16 + (-1 : Int32) := ⟨_, rfl⟩
            have hf := zlet_n ey35 hf
            refine g_iinc X (j := 6) [(6, .int y35), (0, .ref (base + r0)), (1, .int x1), (2, .int x2), (3, .int x3), (4, .ref (base + r4)), (5, .int x5_16), (7, .int x7_16)] dX5_list_62 rfl (by rw [ey35]; rfl) (by decide) rfl ?_
            refine g_goto X 119 dX5_list_65 (by decide) ?_
            obtain ⟨y36, ey36⟩ : ∃ y : Int32, y = x7_16 + (1 : Int32) := ⟨_, rfl⟩
            have hf := zlet_n ey36 hf
            refine g_iinc X (j := 7) [(7, .int y36), (6, .int y35), (0, .ref (base + r0)), (1, .int x1), (2, .int x2), (3, .int x3), (4, .ref (base + r4)), (5, .int x5_16)] dX5_list_119 rfl (by rw [ey36]; rfl) (by decide) rfl ?_
            refine g_goto X 16 dX5_list_122 (by decide) ?_
            cases hf
            exact g_sub [2, 3, 4, 5, 6, 7, 1, 0] rfl (hc0 rfl)
  · obtain ⟨ee, x5_k16, x6_k16, x7_k16, h_k16⟩ := qq
    have hf : kX5_list_16 h ee x5_k16 x6_k16 x7_k16 h_k16 = some hE := hf
    unfold kX5_list_16 at hf
    show zG p l e { frames := 1, cells := 0, slots := 0, locals := 25 } s m args below meth c (MQ below (zQ D cA base h hE none) args s 0 0 (zA base)) 8 D cA base h 125 [] [] h_k16
    cases hf
    exact g_vret X hr dX5_list_125

set_option maxHeartbeats 4000000 in
set_option maxRecDepth 100000 in
theorem sJ7_fill_53178 {l : Launch} {D : va_G} {cA : Nat → ClassId} {base : Nat} {sA : Nat → Nat} {r0 : Nat} {x1 : Int32} {h hE : Zh} (hf : fJ7_fill_53178 r0 x1 h = some hE) : zC l yJ7_fill_53178 cJ7_fill_53178 4 none 0 0 D cA base sA [.ref (base + r0), .int x1] h none hE := by
  refine g_entry RJ7 (by decide) rfl (Nat.le_of_ble_eq_true rfl) ?_
  intro p e s m args below meth c X hr
  unfold fJ7_fill_53178 at hf
  have hf := zlet_n (x := h) rfl hf
  show zG p l e { frames := 0, cells := 0, slots := 0, locals := 0 } s m args below meth c (MQ below (zQ D cA base h hE none) args s 0 0 (zA base)) 4 D cA base h 0 [(0, .ref (base + r0)), (1, .int x1)] [] h
  refine g_iconst X (v := 0) dJ7_fill_53178_0 (by decide) ?_
  refine g_istore_n X [(2, .int ((0 : Int32))), (0, .ref (base + r0)), (1, .int x1)] dJ7_fill_53178_1 (by decide) rfl ?_
  refine g_aload_n X 1 dJ7_fill_53178_2 rfl ?_
  obtain ⟨hk1, hf⟩ := zite hf
  refine g_alen0 X hk1 dJ7_fill_53178_3 ?_
  refine g_topi (fun y2 ey2 => ?_)
  have hf := zlet_n ey2 hf
  refine g_istore_n X [(3, .int y2), (2, .int ((0 : Int32))), (0, .ref (base + r0)), (1, .int x1)] dJ7_fill_53178_4 (by decide) rfl ?_
  refine g_sub [2, 3, 1, 0] rfl ?_
  obtain ⟨qq, hlp, hf⟩ := zbd hf
  refine lp_snd (body := (fun q : Int32 × Zh => bJ7_fill_53178_5 h r0 x1 y2 q.1 q.2)) (P := (fun q : Int32 × Zh => zG p l e { frames := 0, cells := 0, slots := 0, locals := 0 } s m args below meth c (MQ below (zQ D cA base h hE none) args s 0 0 (zA base)) 4 D cA base h 5 [(0, .ref (base + r0)), (1, .int x1), (2, .int q.1), (3, .int y2)] [] q.2)) (E := (fun (en : Nat) (q : Int32 × Zh) => zG p l e { frames := 0, cells := 0, slots := 0, locals := 0 } s m args below meth c (MQ below (zQ D cA base h hE none) args s 0 0 (zA base)) 4 D cA base h 20 [] [] q.2)) ?_ zB ((0 : Int32), h) qq.1 qq.2 hlp ?_
  · intro q e_5 q_5 hf hc0 hc1
    obtain ⟨x2_5, h_5⟩ := q
    have hf : bJ7_fill_53178_5 h r0 x1 y2 x2_5 h_5 = some (e_5, q_5) := hf
    unfold bJ7_fill_53178_5 at hf
    show zG p l e { frames := 0, cells := 0, slots := 0, locals := 0 } s m args below meth c (MQ below (zQ D cA base h hE none) args s 0 0 (zA base)) 4 D cA base h 5 [(0, .ref (base + r0)), (1, .int x1), (2, .int x2_5), (3, .int y2)] [] h_5
    refine g_iload_n X 2 dJ7_fill_53178_5 rfl ?_
    refine g_iload_n X 3 dJ7_fill_53178_6 rfl ?_
    refine g_icmp_ge X 20 dJ7_fill_53178_7 (by decide) (fun hq => ?_) (fun hq => ?_)
    · have hf := zpos hq hf
      cases hf
      have hc1 := hc1 (by decide)
      exact g_sub [] rfl hc1
    · have hf := zneg hq hf
      refine g_aload_n X 0 dJ7_fill_53178_10 rfl ?_
      refine g_iload_n X 2 dJ7_fill_53178_11 rfl ?_
      refine g_iload_n X 1 dJ7_fill_53178_12 rfl ?_
      obtain ⟨hi3, hf⟩ := zite hf
      refine g_iast X hk1 hi3 dJ7_fill_53178_13 ?_
      refine g_hp (fun h4 eh4 => ?_)
      have hf := zlet_n eh4 hf
      obtain ⟨y5, ey5⟩ : ∃ y : Int32, y = x2_5 + (1 : Int32) := ⟨_, rfl⟩
      have hf := zlet_n ey5 hf
      refine g_iinc X (j := 2) [(2, .int y5), (0, .ref (base + r0)), (1, .int x1), (3, .int y2)] dJ7_fill_53178_14 rfl (by rw [ey5]; rfl) (by decide) rfl ?_
      refine g_goto X 5 dJ7_fill_53178_17 (by decide) ?_
      cases hf
      exact g_sub [1, 2, 0, 3] rfl (hc0 rfl)
  · obtain ⟨ee, x2_k5, h_k5⟩ := qq
    have hf : kJ7_fill_53178_5 h ee x2_k5 h_k5 = some hE := hf
    unfold kJ7_fill_53178_5 at hf
    show zG p l e { frames := 0, cells := 0, slots := 0, locals := 0 } s m args below meth c (MQ below (zQ D cA base h hE none) args s 0 0 (zA base)) 4 D cA base h 20 [] [] h_k5
    cases hf
    exact g_vret X hr dJ7_fill_53178_20

set_option maxHeartbeats 4000000 in
set_option maxRecDepth 100000 in
theorem sX4_begin {l : Launch} {D : va_G} {cA : Nat → ClassId} {base : Nat} {sA : Nat → Nat} {r0 : Nat} {r1 : Nat} {h hE : Zh} (hf : fX4_begin r0 r1 h = some hE) : zC l yX4_begin cX4_begin 3 none 2 52 D cA base sA [.ref (base + r0), .ref (base + r1)] h none hE := by
  refine g_entry RX4 (by decide) rfl (Nat.le_of_ble_eq_true rfl) ?_
  intro p e s m args below meth c X hr
  unfold fX4_begin at hf
  have hf := zlet_n (x := h) rfl hf
  show zG p l e { frames := 2, cells := 0, slots := 0, locals := 52 } s m args below meth c (MQ below (zQ D cA base h hE none) args s 0 0 (zA base)) 3 D cA base h 0 [(0, .ref (base + r0)), (1, .ref (base + r1))] [] h
  refine g_aload_n X 0 dX4_begin_0 rfl ?_
  refine g_aload_n X 1 dX4_begin_1 rfl ?_
  obtain ⟨hk1, hf⟩ := zite hf
  refine g_putR X zf4 hk1 1 (by decide) w_f_RX4_18 rfl rfl rfl dX4_begin_2 ?_
  refine g_hp (fun h2 eh2 => ?_)
  have hf := zlet_n eh2 hf
  refine g_aload_n X 0 dX4_begin_5 rfl ?_
  obtain ⟨r_3, hr_3, hf⟩ := zbd hf
  refine g_get X zf4 hk1 2 (by decide) w_f_RX4_25 rfl (zfv_r hr_3 rfl) dX4_begin_6 ?_
  refine g_aload_n X 0 dX4_begin_9 rfl ?_
  obtain ⟨r_4, hr_4, hf⟩ := zbd hf
  refine g_get X zf4 hk1 1 (by decide) w_f_RX4_18 rfl (zfv_r hr_4 rfl) dX4_begin_10 ?_
  obtain ⟨hk5, hf⟩ := zite hf
  obtain ⟨r_6, hr_6, hf⟩ := zbd hf
  refine g_get X zf9 hk5 1 (by decide) w_f_RX4_68 rfl (zfv_r hr_6 rfl) dX4_begin_13 ?_
  obtain ⟨hk7, hf⟩ := zite hf
  refine g_get X zf0 hk7 0 (by decide) w_f_RX4_72 rfl rfl dX4_begin_16 ?_
  refine g_aload_n X 0 dX4_begin_19 rfl ?_
  obtain ⟨r_8, hr_8, hf⟩ := zbd hf
  refine g_get X zf4 hk1 1 (by decide) w_f_RX4_18 rfl (zfv_r hr_8 rfl) dX4_begin_20 ?_
  obtain ⟨hk9, hf⟩ := zite hf
  obtain ⟨r_10, hr_10, hf⟩ := zbd hf
  refine g_get X zf9 hk9 1 (by decide) w_f_RX4_68 rfl (zfv_r hr_10 rfl) dX4_begin_23 ?_
  obtain ⟨hk11, hf⟩ := zite hf
  refine g_get X zf0 hk11 3 (by decide) w_f_RX4_78 rfl rfl dX4_begin_26 ?_
  refine g_aload_n X 0 dX4_begin_29 rfl ?_
  obtain ⟨r_12, hr_12, hf⟩ := zbd hf
  refine g_get X zf4 hk1 1 (by decide) w_f_RX4_18 rfl (zfv_r hr_12 rfl) dX4_begin_30 ?_
  obtain ⟨hk13, hf⟩ := zite hf
  obtain ⟨r_14, hr_14, hf⟩ := zbd hf
  refine g_get X zf9 hk13 1 (by decide) w_f_RX4_68 rfl (zfv_r hr_14 rfl) dX4_begin_33 ?_
  obtain ⟨hk15, hf⟩ := zite hf
  refine g_get X zf0 hk15 6 (by decide) w_f_RX4_81 rfl rfl dX4_begin_36 ?_
  have hJ47 : ∀ (t0_47 : Int32) (t1_47 : Int32) (t2_47 : Int32) (t3_47 : Nat) (h_47 : Zh), jX4_begin_47 h r0 t0_47 t1_47 t2_47 t3_47 h_47 = some hE → zG p l e { frames := 2, cells := 0, slots := 0, locals := 52 } s m args below meth c (MQ below (zQ D cA base h hE none) args s 0 0 (zA base)) 3 D cA base h 47 [(0, .ref (base + r0))] [.int t0_47, .int t1_47, .int t2_47, .ref (base + t3_47)] h_47 := by
    intro t0_47 t1_47 t2_47 t3_47 h_47 hf
    unfold jX4_begin_47 at hf
    refine g_aload_n X 0 dX4_begin_47 rfl ?_
    obtain ⟨r_16, hr_16, hf⟩ := zbd hf
    refine g_get X zf4 hk1 0 (by decide) w_f_RX4_9 rfl (zfv_r hr_16 rfl) dX4_begin_48 ?_
    obtain ⟨hk17, hf⟩ := zite hf
    obtain ⟨h18, hch18, hf⟩ := zbd hf
    refine g_callV X 4 (sX5_list hch18) zf5 hk17 ydX5_list w_ml_RX4_85 w_instanceMethod_X5_list w_sel_X5_list w_ini_RX5 w_code_X5_list (by decide) rfl (st := []) rfl rfl (Nat.le_of_ble_eq_true rfl) dX4_begin_51 ?_
    refine g_aload_n X 0 dX4_begin_54 rfl ?_
    obtain ⟨r_19, hr_19, hf⟩ := zbd hf
    refine g_get X zf4 hk1 5 (by decide) w_f_RX4_46 rfl (zfv_r hr_19 rfl) dX4_begin_55 ?_
    refine g_iconst X (v := 0) dX4_begin_58 (by decide) ?_
    obtain ⟨hk20, hf⟩ := zite hf
    refine g_putZ X zf6 hk20 (Or.inl rfl) 1 (by decide) w_f_RX4_89 rfl rfl rfl dX4_begin_59 ?_
    refine g_hp (fun h21 eh21 => ?_)
    have hf := zlet_n eh21 hf
    refine g_iconst X (v := 0) dX4_begin_62 (by decide) ?_
    refine g_istore_n X [(2, .int ((0 : Int32))), (0, .ref (base + r0))] dX4_begin_63 (by decide) rfl ?_
    refine g_sub [1, 0] rfl ?_
    obtain ⟨qq, hlp, hf⟩ := zbd hf
    refine lp_snd (body := (fun q : Int32 × Zh => bX4_begin_64 h r0 q.1 q.2)) (P := (fun q : Int32 × Zh => zG p l e { frames := 2, cells := 0, slots := 0, locals := 52 } s m args below meth c (MQ below (zQ D cA base h hE none) args s 0 0 (zA base)) 3 D cA base h 64 [(0, .ref (base + r0)), (2, .int q.1)] [] q.2)) (E := (fun (en : Nat) (q : Int32 × Zh) => zG p l e { frames := 2, cells := 0, slots := 0, locals := 52 } s m args below meth c (MQ below (zQ D cA base h hE none) args s 0 0 (zA base)) 3 D cA base h 84 [(0, .ref (base + r0))] [] q.2)) ?_ zB ((0 : Int32), h21) qq.1 qq.2 hlp ?_
    · intro q e_64 q_64 hf hc0 hc1
      obtain ⟨x2_64, h_64⟩ := q
      have hf : bX4_begin_64 h r0 x2_64 h_64 = some (e_64, q_64) := hf
      unfold bX4_begin_64 at hf
      show zG p l e { frames := 2, cells := 0, slots := 0, locals := 52 } s m args below meth c (MQ below (zQ D cA base h hE none) args s 0 0 (zA base)) 3 D cA base h 64 [(0, .ref (base + r0)), (2, .int x2_64)] [] h_64
      refine g_iload_n X 1 dX4_begin_64 rfl ?_
      refine g_iconst X (v := 4) dX4_begin_65 (by decide) ?_
      refine g_icmp_ge X 84 dX4_begin_66 (by decide) (fun hq => ?_) (fun hq => ?_)
      · have hf := zpos hq hf
        cases hf
        have hc1 := hc1 (by decide)
        exact g_sub [0] rfl hc1
      · have hf := zneg hq hf
        refine g_aload_n X 0 dX4_begin_69 rfl ?_
        obtain ⟨r_22, hr_22, hf⟩ := zbd hf
        refine g_get X zf4 hk1 6 (by decide) w_f_RX4_55 rfl (zfv_r hr_22 rfl) dX4_begin_70 ?_
        refine g_iload_n X 1 dX4_begin_73 rfl ?_
        obtain ⟨hk23, hf⟩ := zite hf
        obtain ⟨hi24, hf⟩ := zite hf
        obtain ⟨r_25, hr_25, hf⟩ := zbd hf
        refine g_aald4 X hk23 hi24 hr_25 dX4_begin_74 ?_
        obtain ⟨hk26, hf⟩ := zite hf
        obtain ⟨h27, hch27, hf⟩ := zbd hf
        refine g_callV X 0 (sX2_clear hch27) zf2 hk26 ydX2_clear w_ml_RX4_92 w_instanceMethod_X2_clear w_sel_X2_clear w_ini_RX2 w_code_X2_clear (by decide) rfl (st := []) rfl rfl (Nat.le_of_ble_eq_true rfl) dX4_begin_75 ?_
        obtain ⟨y28, ey28⟩ : ∃ y : Int32, y = x2_64 + (1 : Int32) := ⟨_, rfl⟩
        have hf := zlet_n ey28 hf
        refine g_iinc X (j := 1) [(2, .int y28), (0, .ref (base + r0))] dX4_begin_78 rfl (by rw [ey28]; rfl) (by decide) rfl ?_
        refine g_goto X 64 dX4_begin_81 (by decide) ?_
        cases hf
        exact g_sub [1, 0] rfl (hc0 rfl)
    · obtain ⟨ee, x2_k64, h_k64⟩ := qq
      have hf : kX4_begin_64 h r0 ee x2_k64 h_k64 = some hE := hf
      unfold kX4_begin_64 at hf
      show zG p l e { frames := 2, cells := 0, slots := 0, locals := 52 } s m args below meth c (MQ below (zQ D cA base h hE none) args s 0 0 (zA base)) 3 D cA base h 84 [(0, .ref (base + r0))] [] h_k64
      refine g_aload_n X 0 dX4_begin_84 rfl ?_
      obtain ⟨r_29, hr_29, hf⟩ := zbd hf
      refine g_get X zf4 hk1 7 (by decide) w_f_RX4_59 rfl (zfv_r hr_29 rfl) dX4_begin_85 ?_
      refine g_bipush X (v := -3) dX4_begin_88 (by decide) ?_
      obtain ⟨h30, hch30, hf⟩ := zbd hf
      refine g_callS X 2 (sJ7_fill_53178 hch30) ysJ7_fill_53178 w_ml_RX4_95 w_static_J7_fill_53178 w_ini_RJ7 w_code_J7_fill_53178 (by decide) rfl (st := []) rfl rfl (Nat.le_of_ble_eq_true rfl) dX4_begin_90 ?_
      refine g_aload_n X 0 dX4_begin_93 rfl ?_
      obtain ⟨r_31, hr_31, hf⟩ := zbd hf
      refine g_get X zf4 hk1 8 (by decide) w_f_RX4_62 rfl (zfv_r hr_31 rfl) dX4_begin_94 ?_
      refine g_bipush X (v := -3) dX4_begin_97 (by decide) ?_
      obtain ⟨h32, hch32, hf⟩ := zbd hf
      refine g_callS X 2 (sJ7_fill_53178 hch32) ysJ7_fill_53178 w_ml_RX4_95 w_static_J7_fill_53178 w_ini_RJ7 w_code_J7_fill_53178 (by decide) rfl (st := []) rfl rfl (Nat.le_of_ble_eq_true rfl) dX4_begin_99 ?_
      refine g_aload_n X 0 dX4_begin_102 rfl ?_
      refine g_bipush X (v := -3) dX4_begin_103 (by decide) ?_
      refine g_putI X zf4 hk1 9 (by decide) w_f_RX4_101 rfl rfl rfl dX4_begin_105 ?_
      refine g_hp (fun h33 eh33 => ?_)
      have hf := zlet_n eh33 hf
      cases hf
      exact g_vret X hr dX4_begin_108
  refine g_if_ne X 46 dX4_begin_39 (by decide) (fun hq => ?_) (fun hq => ?_)
  · have hf := zneg hq hf
    refine g_iconst X (v := 0) dX4_begin_46 (by decide) ?_
    refine g_sub [0] rfl ?_
    exact hJ47 _ _ _ _ _ hf
  · have hf := zpos hq hf
    refine g_iconst X (v := 1) dX4_begin_42 (by decide) ?_
    refine g_goto X 47 dX4_begin_43 (by decide) ?_
    refine g_sub [0] rfl ?_
    exact hJ47 _ _ _ _ _ hf

set_option maxHeartbeats 4000000 in
set_option maxRecDepth 100000 in
theorem sX4_tableRow {l : Launch} {D : va_G} {cA : Nat → ClassId} {base : Nat} {sA : Nat → Nat} {r0 : Nat} {x1 : Int32} {h hE : Zh} {rE : Int32} (hf : fX4_tableRow r0 x1 h = some (rE, hE)) : zC l yX4_tableRow cX4_tableRow 2 (some .int) 0 0 D cA base sA [.ref (base + r0), .int x1] h (some (.int rE)) hE := by
  refine g_entry RX4 (by decide) rfl (Nat.le_of_ble_eq_true rfl) ?_
  intro p e s m args below meth c X hr
  unfold fX4_tableRow at hf
  have hf := zlet_n (x := h) rfl hf
  show zG p l e { frames := 0, cells := 0, slots := 0, locals := 0 } s m args below meth c (MQ below (zQ D cA base h hE (some (.int rE))) args s 0 0 (zA base)) 2 D cA base h 0 [(0, .ref (base + r0)), (1, .int x1)] [] h
  refine g_aload_n X 0 dX4_tableRow_0 rfl ?_
  obtain ⟨hk1, hf⟩ := zite hf
  obtain ⟨r_2, hr_2, hf⟩ := zbd hf
  refine g_get X zf4 hk1 5 (by decide) w_f_RX4_46 rfl (zfv_r hr_2 rfl) dX4_tableRow_1 ?_
  obtain ⟨hk3, hf⟩ := zite hf
  refine g_get X zf6 hk3 2 (by decide) w_f_RX4_156 rfl rfl dX4_tableRow_4 ?_
  refine g_if_eq X 29 dX4_tableRow_7 (by decide) (fun hq => ?_) (fun hq => ?_)
  · have hf := zpos hq hf
    refine g_bipush X (v := -2) dX4_tableRow_29 (by decide) ?_
    obtain ⟨rfl, rfl⟩ := zsm hf
    exact g_iret X hr dX4_tableRow_31
  · have hf := zneg hq hf
    refine g_iload_n X 1 dX4_tableRow_10 rfl ?_
    refine g_sipush X (v := 300) dX4_tableRow_11 (by decide) ?_
    refine g_icmp_ge X 29 dX4_tableRow_14 (by decide) (fun hq => ?_) (fun hq => ?_)
    · have hf := zpos hq hf
      refine g_bipush X (v := -2) dX4_tableRow_29 (by decide) ?_
      obtain ⟨rfl, rfl⟩ := zsm hf
      exact g_iret X hr dX4_tableRow_31
    · have hf := zneg hq hf
      refine g_aload_n X 0 dX4_tableRow_17 rfl ?_
      obtain ⟨r_4, hr_4, hf⟩ := zbd hf
      refine g_get X zf4 hk1 5 (by decide) w_f_RX4_46 rfl (zfv_r hr_4 rfl) dX4_tableRow_18 ?_
      obtain ⟨hk5, hf⟩ := zite hf
      obtain ⟨r_6, hr_6, hf⟩ := zbd hf
      refine g_get X zf6 hk5 0 (by decide) w_f_RX4_159 rfl (zfv_r hr_6 rfl) dX4_tableRow_21 ?_
      refine g_iload_n X 1 dX4_tableRow_24 rfl ?_
      obtain ⟨hk7, hf⟩ := zite hf
      obtain ⟨hi8, hf⟩ := zite hf
      refine g_iald X hk7 hi8 dX4_tableRow_25 ?_
      refine g_goto X 31 dX4_tableRow_26 (by decide) ?_
      obtain ⟨rfl, rfl⟩ := zsm hf
      exact g_iret X hr dX4_tableRow_31

set_option maxHeartbeats 4000000 in
set_option maxRecDepth 100000 in
theorem sX4_rowFor {l : Launch} {D : va_G} {cA : Nat → ClassId} {base : Nat} {sA : Nat → Nat} {r0 : Nat} {x1 : Int32} {x2 : Int32} {h hE : Zh} {rE : Int32} (hf : fX4_rowFor r0 x1 x2 h = some (rE, hE)) : zC l yX4_rowFor cX4_rowFor 3 (some .int) 4 108 D cA base sA [.ref (base + r0), .int x1, .int x2] h (some (.int rE)) hE := by
  refine g_entry RX4 (by decide) rfl (Nat.le_of_ble_eq_true rfl) ?_
  intro p e s m args below meth c X hr
  unfold fX4_rowFor at hf
  have hf := zlet_n (x := h) rfl hf
  show zG p l e { frames := 4, cells := 0, slots := 0, locals := 108 } s m args below meth c (MQ below (zQ D cA base h hE (some (.int rE))) args s 0 0 (zA base)) 3 D cA base h 0 [(0, .ref (base + r0)), (1, .int x1), (2, .int x2)] [] h
  refine g_iload_n X 1 dX4_rowFor_0 rfl ?_
  refine g_bipush X (v := 21) dX4_rowFor_1 (by decide) ?_
  refine g_icmp_ne X 12 dX4_rowFor_3 (by decide) (fun hq => ?_) (fun hq => ?_)
  · have hf := zneg hq hf
    refine g_iload_n X 1 dX4_rowFor_12 rfl ?_
    refine g_bipush X (v := 20) dX4_rowFor_13 (by decide) ?_
    refine g_icmp_ne X 41 dX4_rowFor_15 (by decide) (fun hq => ?_) (fun hq => ?_)
    · have hf := zneg hq hf
      refine g_aload_n X 0 dX4_rowFor_41 rfl ?_
      obtain ⟨hk1, hf⟩ := zite hf
      obtain ⟨r_2, hr_2, hf⟩ := zbd hf
      refine g_get X zf4 hk1 3 (by decide) w_f_RX4_32 rfl (zfv_r hr_2 rfl) dX4_rowFor_42 ?_
      refine g_aload_n X 0 dX4_rowFor_45 rfl ?_
      obtain ⟨r_3, hr_3, hf⟩ := zbd hf
      refine g_get X zf4 hk1 1 (by decide) w_f_RX4_18 rfl (zfv_r hr_3 rfl) dX4_rowFor_46 ?_
      obtain ⟨hk4, hf⟩ := zite hf
      obtain ⟨r_5, hr_5, hf⟩ := zbd hf
      refine g_get X zf9 hk4 1 (by decide) w_f_RX4_68 rfl (zfv_r hr_5 rfl) dX4_rowFor_49 ?_
      refine g_aload_n X 0 dX4_rowFor_52 rfl ?_
      obtain ⟨r_6, hr_6, hf⟩ := zbd hf
      refine g_get X zf4 hk1 0 (by decide) w_f_RX4_9 rfl (zfv_r hr_6 rfl) dX4_rowFor_53 ?_
      refine g_iload_n X 2 dX4_rowFor_56 rfl ?_
      obtain ⟨hk7, hf⟩ := zite hf
      obtain ⟨hi8, hf⟩ := zite hf
      refine g_iald X hk7 hi8 dX4_rowFor_57 ?_
      refine g_iload_n X 1 dX4_rowFor_58 rfl ?_
      obtain ⟨hk9, hf⟩ := zite hf
      obtain ⟨v11, h10, hch10, hf⟩ := zc2_e hf
      refine g_callV X 3 (sX3_byWords hch10) zf3 hk9 ydX3_byWords w_ml_RX4_134 w_instanceMethod_X3_byWords w_sel_X3_byWords w_ini_RX3 w_code_X3_byWords (by decide) rfl (st := []) rfl rfl (Nat.le_of_ble_eq_true rfl) dX4_rowFor_59 ?_
      obtain ⟨rfl, rfl⟩ := zsm hf
      exact g_iret X hr dX4_rowFor_62
    · have hf := zpos hq hf
      refine g_aload_n X 0 dX4_rowFor_18 rfl ?_
      obtain ⟨hk12, hf⟩ := zite hf
      obtain ⟨r_13, hr_13, hf⟩ := zbd hf
      refine g_get X zf4 hk12 3 (by decide) w_f_RX4_32 rfl (zfv_r hr_13 rfl) dX4_rowFor_19 ?_
      refine g_aload_n X 0 dX4_rowFor_22 rfl ?_
      obtain ⟨r_14, hr_14, hf⟩ := zbd hf
      refine g_get X zf4 hk12 1 (by decide) w_f_RX4_18 rfl (zfv_r hr_14 rfl) dX4_rowFor_23 ?_
      obtain ⟨hk15, hf⟩ := zite hf
      obtain ⟨r_16, hr_16, hf⟩ := zbd hf
      refine g_get X zf9 hk15 1 (by decide) w_f_RX4_68 rfl (zfv_r hr_16 rfl) dX4_rowFor_26 ?_
      refine g_aload_n X 0 dX4_rowFor_29 rfl ?_
      obtain ⟨r_17, hr_17, hf⟩ := zbd hf
      refine g_get X zf4 hk12 0 (by decide) w_f_RX4_9 rfl (zfv_r hr_17 rfl) dX4_rowFor_30 ?_
      refine g_iload_n X 2 dX4_rowFor_33 rfl ?_
      obtain ⟨hk18, hf⟩ := zite hf
      obtain ⟨hi19, hf⟩ := zite hf
      refine g_iald X hk18 hi19 dX4_rowFor_34 ?_
      obtain ⟨hk20, hf⟩ := zite hf
      obtain ⟨v22, h21, hch21, hf⟩ := zc2_e hf
      refine g_callV X 2 (sX3_bySuit hch21) zf3 hk20 ydX3_bySuit w_ml_RX4_130 w_instanceMethod_X3_bySuit w_sel_X3_bySuit w_ini_RX3 w_code_X3_bySuit (by decide) rfl (st := []) rfl rfl (Nat.le_of_ble_eq_true rfl) dX4_rowFor_35 ?_
      refine g_goto X 62 dX4_rowFor_38 (by decide) ?_
      obtain ⟨rfl, rfl⟩ := zsm hf
      exact g_iret X hr dX4_rowFor_62
  · have hf := zpos hq hf
    refine g_aload_n X 0 dX4_rowFor_6 rfl ?_
    refine g_iload_n X 2 dX4_rowFor_7 rfl ?_
    obtain ⟨hk23, hf⟩ := zite hf
    obtain ⟨v25, h24, hch24, hf⟩ := zc2_e hf
    refine g_callV X 1 (sX4_tableRow hch24) zf4 hk23 ydX4_tableRow w_ml_RX4_126 w_instanceMethod_X4_tableRow w_sel_X4_tableRow w_ini_RX4 w_code_X4_tableRow (by decide) rfl (st := []) rfl rfl (Nat.le_of_ble_eq_true rfl) dX4_rowFor_8 ?_
    obtain ⟨rfl, rfl⟩ := zsm hf
    exact g_iret X hr dX4_rowFor_11

set_option maxHeartbeats 4000000 in
set_option maxRecDepth 100000 in
theorem sX8_slotOf {l : Launch} {D : va_G} {cA : Nat → ClassId} {base : Nat} {sA : Nat → Nat} {r0 : Nat} {x1 : Int32} {h hE : Zh} {rE : Int32} (hf : fX8_slotOf r0 x1 h = some (rE, hE)) : zC l yX8_slotOf cX8_slotOf 4 (some .int) 0 0 D cA base sA [.ref (base + r0), .int x1] h (some (.int rE)) hE := by
  refine g_entry RX8 (by decide) rfl (Nat.le_of_ble_eq_true rfl) ?_
  intro p e s m args below meth c X hr
  unfold fX8_slotOf at hf
  have hf := zlet_n (x := h) rfl hf
  show zG p l e { frames := 0, cells := 0, slots := 0, locals := 0 } s m args below meth c (MQ below (zQ D cA base h hE (some (.int rE))) args s 0 0 (zA base)) 4 D cA base h 0 [(0, .ref (base + r0)), (1, .int x1)] [] h
  refine g_iload_n X 1 dX8_slotOf_0 rfl ?_
  refine g_ldc X w_c_RX8_25 dX8_slotOf_1 ?_
  refine g_imul X dX8_slotOf_3 ?_
  refine g_bipush X (v := 20) dX8_slotOf_4 (by decide) ?_
  refine g_iushr X dX8_slotOf_6 ?_
  refine g_topi (fun y1 ey1 => ?_)
  have hf := zlet_n ey1 hf
  refine g_istore_n X [(2, .int y1), (0, .ref (base + r0)), (1, .int x1)] dX8_slotOf_7 (by decide) rfl ?_
  refine g_iconst X (v := 0) dX8_slotOf_8 (by decide) ?_
  refine g_istore_n X [(3, .int ((0 : Int32))), (2, .int y1), (0, .ref (base + r0)), (1, .int x1)] dX8_slotOf_9 (by decide) rfl ?_
  refine g_sub [2, 3, 1, 0] rfl ?_
  obtain ⟨qq, hlp, hf⟩ := zbd hf
  refine lp_snd (body := (fun q : Int32 × Int32 × Zh => bX8_slotOf_10 h r0 x1 q.1 q.2.1 q.2.2)) (P := (fun q : Int32 × Int32 × Zh => zG p l e { frames := 0, cells := 0, slots := 0, locals := 0 } s m args below meth c (MQ below (zQ D cA base h hE (some (.int rE))) args s 0 0 (zA base)) 4 D cA base h 10 [(0, .ref (base + r0)), (1, .int x1), (2, .int q.1), (3, .int q.2.1)] [] q.2.2)) (E := (fun (en : Nat) (q : Int32 × Int32 × Zh) => if en = 1 then zG p l e { frames := 0, cells := 0, slots := 0, locals := 0 } s m args below meth c (MQ below (zQ D cA base h hE (some (.int rE))) args s 0 0 (zA base)) 4 D cA base h 40 [(2, .int q.1)] [] q.2.2 else zG p l e { frames := 0, cells := 0, slots := 0, locals := 0 } s m args below meth c (MQ below (zQ D cA base h hE (some (.int rE))) args s 0 0 (zA base)) 4 D cA base h 56 [] [] q.2.2)) ?_ zB (y1, ((0 : Int32), h)) qq.1 qq.2 hlp ?_
  · intro q e_10 q_10 hf hc0 hc1
    obtain ⟨x2_10, x3_10, h_10⟩ := q
    have hf : bX8_slotOf_10 h r0 x1 x2_10 x3_10 h_10 = some (e_10, q_10) := hf
    unfold bX8_slotOf_10 at hf
    show zG p l e { frames := 0, cells := 0, slots := 0, locals := 0 } s m args below meth c (MQ below (zQ D cA base h hE (some (.int rE))) args s 0 0 (zA base)) 4 D cA base h 10 [(0, .ref (base + r0)), (1, .int x1), (2, .int x2_10), (3, .int x3_10)] [] h_10
    refine g_iload_n X 3 dX8_slotOf_10 rfl ?_
    refine g_sipush X (v := 4096) dX8_slotOf_11 (by decide) ?_
    refine g_icmp_ge X 56 dX8_slotOf_14 (by decide) (fun hq => ?_) (fun hq => ?_)
    · have hf := zpos hq hf
      cases hf
      have hc1 := hc1 (by decide)
      exact g_sub [] rfl (zun_n (by decide) hc1)
    · have hf := zneg hq hf
      refine g_aload_n X 0 dX8_slotOf_17 rfl ?_
      obtain ⟨hk2, hf⟩ := zite hf
      obtain ⟨r_3, hr_3, hf⟩ := zbd hf
      refine g_get X zf8 hk2 2 (by decide) w_f_RX8_18 rfl (zfv_r hr_3 rfl) dX8_slotOf_18 ?_
      refine g_iload_n X 2 dX8_slotOf_21 rfl ?_
      obtain ⟨hk4, hf⟩ := zite hf
      obtain ⟨hi5, hf⟩ := zite hf
      refine g_iald X hk4 hi5 dX8_slotOf_22 ?_
      refine g_aload_n X 0 dX8_slotOf_23 rfl ?_
      refine g_get X zf8 hk2 3 (by decide) w_f_RX8_21 rfl rfl dX8_slotOf_24 ?_
      refine g_icmp_ne X 40 dX8_slotOf_27 (by decide) (fun hq => ?_) (fun hq => ?_)
      · have hf := zneg hq hf
        cases hf
        have hc1 := hc1 (by decide)
        exact g_sub [2] rfl (zun_p rfl hc1)
      · have hf := zpos hq hf
        refine g_aload_n X 0 dX8_slotOf_30 rfl ?_
        obtain ⟨r_6, hr_6, hf⟩ := zbd hf
        refine g_get X zf8 hk2 0 (by decide) w_f_RX8_11 rfl (zfv_r hr_6 rfl) dX8_slotOf_31 ?_
        refine g_iload_n X 2 dX8_slotOf_34 rfl ?_
        obtain ⟨hk7, hf⟩ := zite hf
        obtain ⟨hi8, hf⟩ := zite hf
        refine g_iald X hk7 hi8 dX8_slotOf_35 ?_
        refine g_iload_n X 1 dX8_slotOf_36 rfl ?_
        refine g_icmp_ne X 42 dX8_slotOf_37 (by decide) (fun hq => ?_) (fun hq => ?_)
        · have hf := zneg hq hf
          refine g_iload_n X 2 dX8_slotOf_42 rfl ?_
          refine g_iconst X (v := 1) dX8_slotOf_43 (by decide) ?_
          refine g_iadd X dX8_slotOf_44 ?_
          refine g_sipush X (v := 4095) dX8_slotOf_45 (by decide) ?_
          refine g_iand X dX8_slotOf_48 ?_
          refine g_topi (fun y9 ey9 => ?_)
          have hf := zlet_n ey9 hf
          refine g_istore_n X [(2, .int y9), (0, .ref (base + r0)), (1, .int x1), (3, .int x3_10)] dX8_slotOf_49 (by decide) rfl ?_
          obtain ⟨y10, ey10⟩ : ∃ y : Int32, y = x3_10 + (1 : Int32) := ⟨_, rfl⟩
          have hf := zlet_n ey10 hf
          refine g_iinc X (j := 3) [(3, .int y10), (2, .int y9), (0, .ref (base + r0)), (1, .int x1)] dX8_slotOf_50 rfl (by rw [ey10]; rfl) (by decide) rfl ?_
          refine g_goto X 10 dX8_slotOf_53 (by decide) ?_
          cases hf
          exact g_sub [2, 3, 1, 0] rfl (hc0 rfl)
        · have hf := zpos hq hf
          cases hf
          have hc1 := hc1 (by decide)
          exact g_sub [2] rfl (zun_p rfl hc1)
  · obtain ⟨ee, x2_k10, x3_k10, h_k10⟩ := qq
    have hf : kX8_slotOf_10 h ee x2_k10 x3_k10 h_k10 = some (rE, hE) := hf
    unfold kX8_slotOf_10 at hf
    by_cases hee0 : ee = 1
    · have hf := zpos hee0 hf
      refine zifp hee0 ?_
      show zG p l e { frames := 0, cells := 0, slots := 0, locals := 0 } s m args below meth c (MQ below (zQ D cA base h hE (some (.int rE))) args s 0 0 (zA base)) 4 D cA base h 40 [(2, .int x2_k10)] [] h_k10
      refine g_iload_n X 0 dX8_slotOf_40 rfl ?_
      obtain ⟨rfl, rfl⟩ := zsm hf
      exact g_iret X hr dX8_slotOf_41
    have hf := zneg hee0 hf
    refine zifn hee0 ?_
    show zG p l e { frames := 0, cells := 0, slots := 0, locals := 0 } s m args below meth c (MQ below (zQ D cA base h hE (some (.int rE))) args s 0 0 (zA base)) 4 D cA base h 56 [] [] h_k10
    refine g_iconst X (v := -1) dX8_slotOf_56 (by decide) ?_
    obtain ⟨rfl, rfl⟩ := zsm hf
    exact g_iret X hr dX8_slotOf_57

set_option maxHeartbeats 4000000 in
set_option maxRecDepth 100000 in
theorem sX8_put {l : Launch} {D : va_G} {cA : Nat → ClassId} {base : Nat} {sA : Nat → Nat} {r0 : Nat} {x1 : Int32} {x2 : Int32} {h hE : Zh} {rE : Int32} (hf : fX8_put r0 x1 x2 h = some (rE, hE)) : zC l yX8_put cX8_put 4 (some .int) 1 23 D cA base sA [.ref (base + r0), .int x1, .int x2] h (some (.int rE)) hE := by
  refine g_entry RX8 (by decide) rfl (Nat.le_of_ble_eq_true rfl) ?_
  intro p e s m args below meth c X hr
  unfold fX8_put at hf
  have hf := zlet_n (x := h) rfl hf
  show zG p l e { frames := 1, cells := 0, slots := 0, locals := 23 } s m args below meth c (MQ below (zQ D cA base h hE (some (.int rE))) args s 0 0 (zA base)) 4 D cA base h 0 [(0, .ref (base + r0)), (1, .int x1), (2, .int x2)] [] h
  refine g_aload_n X 0 dX8_put_0 rfl ?_
  refine g_iload_n X 1 dX8_put_1 rfl ?_
  obtain ⟨hk1, hf⟩ := zite hf
  obtain ⟨v3, h2, hch2, hf⟩ := zc2_e hf
  refine g_callV X 1 (sX8_slotOf hch2) zf8 hk1 ydX8_slotOf w_ml_RX8_26 w_instanceMethod_X8_slotOf w_sel_X8_slotOf w_ini_RX8 w_code_X8_slotOf (by decide) rfl (st := []) rfl rfl (Nat.le_of_ble_eq_true rfl) dX8_put_2 ?_
  refine g_istore_n X [(3, .int v3), (0, .ref (base + r0)), (1, .int x1), (2, .int x2)] dX8_put_5 (by decide) rfl ?_
  refine g_iload_n X 0 dX8_put_6 rfl ?_
  refine g_if_ge X 12 dX8_put_7 (by decide) (fun hq => ?_) (fun hq => ?_)
  · have hf := zpos hq hf
    refine g_aload_n X 1 dX8_put_12 rfl ?_
    obtain ⟨r_4, hr_4, hf⟩ := zbd hf
    refine g_get X zf8 hk1 2 (by decide) w_f_RX8_18 rfl (zfv_r hr_4 rfl) dX8_put_13 ?_
    refine g_iload_n X 0 dX8_put_16 rfl ?_
    obtain ⟨hk5, hf⟩ := zite hf
    obtain ⟨hi6, hf⟩ := zite hf
    refine g_iald X hk5 hi6 dX8_put_17 ?_
    refine g_aload_n X 1 dX8_put_18 rfl ?_
    refine g_get X zf8 hk1 3 (by decide) w_f_RX8_21 rfl rfl dX8_put_19 ?_
    refine g_icmp_ne X 32 dX8_put_22 (by decide) (fun hq => ?_) (fun hq => ?_)
    · have hf := zneg hq hf
      refine g_aload_n X 1 dX8_put_32 rfl ?_
      obtain ⟨r_7, hr_7, hf⟩ := zbd hf
      refine g_get X zf8 hk1 2 (by decide) w_f_RX8_18 rfl (zfv_r hr_7 rfl) dX8_put_33 ?_
      refine g_iload_n X 0 dX8_put_36 rfl ?_
      refine g_aload_n X 1 dX8_put_37 rfl ?_
      refine g_get X zf8 hk1 3 (by decide) w_f_RX8_21 rfl rfl dX8_put_38 ?_
      obtain ⟨hk8, hf⟩ := zite hf
      obtain ⟨hi9, hf⟩ := zite hf
      refine g_iast X hk8 hi9 dX8_put_41 ?_
      refine g_hp (fun h10 eh10 => ?_)
      have hf := zlet_n eh10 hf
      refine g_aload_n X 1 dX8_put_42 rfl ?_
      obtain ⟨r_11, hr_11, hf⟩ := zbd hf
      refine g_get X zf8 hk1 0 (by decide) w_f_RX8_11 rfl (zfv_r hr_11 rfl) dX8_put_43 ?_
      refine g_iload_n X 0 dX8_put_46 rfl ?_
      refine g_iload_n X 2 dX8_put_47 rfl ?_
      obtain ⟨hk12, hf⟩ := zite hf
      obtain ⟨hi13, hf⟩ := zite hf
      refine g_iast X hk12 hi13 dX8_put_48 ?_
      refine g_hp (fun h14 eh14 => ?_)
      have hf := zlet_n eh14 hf
      refine g_aload_n X 1 dX8_put_49 rfl ?_
      obtain ⟨r_15, hr_15, hf⟩ := zbd hf
      refine g_get X zf8 hk1 1 (by decide) w_f_RX8_15 rfl (zfv_r hr_15 rfl) dX8_put_50 ?_
      refine g_iload_n X 0 dX8_put_53 rfl ?_
      refine g_iload_n X 3 dX8_put_54 rfl ?_
      obtain ⟨hk16, hf⟩ := zite hf
      obtain ⟨hi17, hf⟩ := zite hf
      refine g_iast X hk16 hi17 dX8_put_55 ?_
      refine g_hp (fun h18 eh18 => ?_)
      have hf := zlet_n eh18 hf
      refine g_iconst X (v := -1) dX8_put_56 (by decide) ?_
      obtain ⟨rfl, rfl⟩ := zsm hf
      exact g_iret X hr dX8_put_57
    · have hf := zpos hq hf
      refine g_aload_n X 1 dX8_put_25 rfl ?_
      obtain ⟨r_19, hr_19, hf⟩ := zbd hf
      refine g_get X zf8 hk1 1 (by decide) w_f_RX8_15 rfl (zfv_r hr_19 rfl) dX8_put_26 ?_
      refine g_iload_n X 0 dX8_put_29 rfl ?_
      obtain ⟨hk20, hf⟩ := zite hf
      obtain ⟨hi21, hf⟩ := zite hf
      refine g_iald X hk20 hi21 dX8_put_30 ?_
      obtain ⟨rfl, rfl⟩ := zsm hf
      exact g_iret X hr dX8_put_31
  · have hf := zneg hq hf
    refine g_iconst X (v := -1) dX8_put_10 (by decide) ?_
    obtain ⟨rfl, rfl⟩ := zsm hf
    exact g_iret X hr dX8_put_11

set_option maxHeartbeats 4000000 in
set_option maxRecDepth 100000 in
theorem sX4_note {l : Launch} {D : va_G} {cA : Nat → ClassId} {base : Nat} {sA : Nat → Nat} {r0 : Nat} {r1 : Nat} {x2 : Int32} {x3 : Int32} {h hE : Zh} (hf : fX4_note r0 r1 x2 x3 h = some hE) : zC l yX4_note cX4_note 5 none 2 46 D cA base sA [.ref (base + r0), .ref (base + r1), .int x2, .int x3] h none hE := by
  refine g_entry RX4 (by decide) rfl (Nat.le_of_ble_eq_true rfl) ?_
  intro p e s m args below meth c X hr
  unfold fX4_note at hf
  have hf := zlet_n (x := h) rfl hf
  show zG p l e { frames := 2, cells := 0, slots := 0, locals := 46 } s m args below meth c (MQ below (zQ D cA base h hE none) args s 0 0 (zA base)) 5 D cA base h 0 [(0, .ref (base + r0)), (1, .ref (base + r1)), (2, .int x2), (3, .int x3)] [] h
  refine g_aload_n X 1 dX4_note_0 rfl ?_
  obtain ⟨hk1, hf⟩ := zite hf
  obtain ⟨r_2, hr_2, hf⟩ := zbd hf
  refine g_get X zf2 hk1 1 (by decide) w_f_RX4_138 rfl (zfv_r hr_2 rfl) dX4_note_1 ?_
  refine g_iload_n X 2 dX4_note_4 rfl ?_
  refine g_iload_n X 3 dX4_note_5 rfl ?_
  obtain ⟨hk3, hf⟩ := zite hf
  obtain ⟨hi4, hf⟩ := zite hf
  refine g_iast X hk3 hi4 dX4_note_6 ?_
  refine g_hp (fun h5 eh5 => ?_)
  have hf := zlet_n eh5 hf
  refine g_iload_n X 3 dX4_note_7 rfl ?_
  refine g_if_ge X 22 dX4_note_8 (by decide) (fun hq => ?_) (fun hq => ?_)
  · have hf := zpos hq hf
    refine g_aload_n X 0 dX4_note_22 rfl ?_
    obtain ⟨hk6, hf⟩ := zite hf
    obtain ⟨r_7, hr_7, hf⟩ := zbd hf
    refine g_get X zf4 hk6 4 (by decide) w_f_RX4_39 rfl (zfv_r hr_7 rfl) dX4_note_23 ?_
    refine g_iload_n X 3 dX4_note_26 rfl ?_
    refine g_iload_n X 2 dX4_note_27 rfl ?_
    obtain ⟨hk8, hf⟩ := zite hf
    obtain ⟨v10, h9, hch9, hf⟩ := zc2_e hf
    refine g_callV X 2 (sX8_put hch9) zf8 hk8 ydX8_put w_ml_RX4_144 w_instanceMethod_X8_put w_sel_X8_put w_ini_RX8 w_code_X8_put (by decide) rfl (st := []) rfl rfl (Nat.le_of_ble_eq_true rfl) dX4_note_28 ?_
    refine g_istore X [(4, .int v10), (0, .ref (base + r0)), (1, .ref (base + r1)), (2, .int x2), (3, .int x3)] dX4_note_31 (by decide) rfl ?_
    refine g_iload X 0 dX4_note_33 rfl ?_
    refine g_if_ge X 51 dX4_note_35 (by decide) (fun hq => ?_) (fun hq => ?_)
    · have hf := zpos hq hf
      refine g_aload_n X 2 dX4_note_51 rfl ?_
      refine g_get X zf2 hk1 5 (by decide) w_f_RX4_150 rfl rfl dX4_note_52 ?_
      refine g_if_ge X 69 dX4_note_55 (by decide) (fun hq => ?_) (fun hq => ?_)
      · have hf := zpos hq hf
        cases hf
        exact g_vret X hr dX4_note_69
      · have hf := zneg hq hf
        refine g_aload_n X 2 dX4_note_58 rfl ?_
        refine g_iload_n X 3 dX4_note_59 rfl ?_
        refine g_putI X zf2 hk1 5 (by decide) w_f_RX4_150 rfl rfl rfl dX4_note_60 ?_
        refine g_hp (fun h11 eh11 => ?_)
        have hf := zlet_n eh11 hf
        refine g_aload_n X 2 dX4_note_63 rfl ?_
        refine g_iload X 0 dX4_note_64 rfl ?_
        refine g_putI X zf2 hk1 6 (by decide) w_f_RX4_153 rfl rfl rfl dX4_note_66 ?_
        refine g_hp (fun h12 eh12 => ?_)
        have hf := zlet_n eh12 hf
        cases hf
        exact g_vret X hr dX4_note_69
    · have hf := zneg hq hf
      refine g_aload_n X 2 dX4_note_38 rfl ?_
      refine g_dup X dX4_note_39 rfl ?_
      refine g_get X zf2 hk1 4 (by decide) w_f_RX4_147 rfl rfl dX4_note_40 ?_
      refine g_iconst X (v := 1) dX4_note_43 (by decide) ?_
      refine g_iadd X dX4_note_44 ?_
      refine g_putI X zf2 hk1 4 (by decide) w_f_RX4_147 rfl rfl rfl dX4_note_45 ?_
      refine g_hp (fun h13 eh13 => ?_)
      have hf := zlet_n eh13 hf
      refine g_goto X 69 dX4_note_48 (by decide) ?_
      cases hf
      exact g_vret X hr dX4_note_69
  · have hf := zneg hq hf
    refine g_aload_n X 1 dX4_note_11 rfl ?_
    refine g_dup X dX4_note_12 rfl ?_
    refine g_get X zf2 hk1 3 (by decide) w_f_RX4_141 rfl rfl dX4_note_13 ?_
    refine g_iconst X (v := 1) dX4_note_16 (by decide) ?_
    refine g_iadd X dX4_note_17 ?_
    refine g_putI X zf2 hk1 3 (by decide) w_f_RX4_141 rfl rfl rfl dX4_note_18 ?_
    refine g_hp (fun h14 eh14 => ?_)
    have hf := zlet_n eh14 hf
    cases hf
    exact g_vret X hr dX4_note_21

set_option maxHeartbeats 4000000 in
set_option maxRecDepth 100000 in
theorem sX4_firstLaid {l : Launch} {D : va_G} {cA : Nat → ClassId} {base : Nat} {sA : Nat → Nat} {r0 : Nat} {r1 : Nat} {x2 : Int32} {h hE : Zh} {rE : Int32} (hf : fX4_firstLaid r0 r1 x2 h = some (rE, hE)) : zC l yX4_firstLaid cX4_firstLaid 4 (some .int) 0 0 D cA base sA [.ref (base + r0), .ref (base + r1), .int x2] h (some (.int rE)) hE := by
  refine g_entry RX4 (by decide) rfl (Nat.le_of_ble_eq_true rfl) ?_
  intro p e s m args below meth c X hr
  unfold fX4_firstLaid at hf
  have hf := zlet_n (x := h) rfl hf
  show zG p l e { frames := 0, cells := 0, slots := 0, locals := 0 } s m args below meth c (MQ below (zQ D cA base h hE (some (.int rE))) args s 0 0 (zA base)) 4 D cA base h 0 [(0, .ref (base + r0)), (1, .ref (base + r1)), (2, .int x2)] [] h
  refine g_iconst X (v := 0) dX4_firstLaid_0 (by decide) ?_
  refine g_istore_n X [(3, .int ((0 : Int32))), (0, .ref (base + r0)), (1, .ref (base + r1)), (2, .int x2)] dX4_firstLaid_1 (by decide) rfl ?_
  refine g_sub [1, 2, 3, 0] rfl ?_
  obtain ⟨qq, hlp, hf⟩ := zbd hf
  refine lp_snd (body := (fun q : Int32 × Zh => bX4_firstLaid_2 h r0 r1 x2 q.1 q.2)) (P := (fun q : Int32 × Zh => zG p l e { frames := 0, cells := 0, slots := 0, locals := 0 } s m args below meth c (MQ below (zQ D cA base h hE (some (.int rE))) args s 0 0 (zA base)) 4 D cA base h 2 [(0, .ref (base + r0)), (1, .ref (base + r1)), (2, .int x2), (3, .int q.1)] [] q.2)) (E := (fun (en : Nat) (q : Int32 × Zh) => if en = 1 then zG p l e { frames := 0, cells := 0, slots := 0, locals := 0 } s m args below meth c (MQ below (zQ D cA base h hE (some (.int rE))) args s 0 0 (zA base)) 4 D cA base h 26 [(3, .int q.1)] [] q.2 else zG p l e { frames := 0, cells := 0, slots := 0, locals := 0 } s m args below meth c (MQ below (zQ D cA base h hE (some (.int rE))) args s 0 0 (zA base)) 4 D cA base h 34 [] [] q.2)) ?_ zB ((0 : Int32), h) qq.1 qq.2 hlp ?_
  · intro q e_2 q_2 hf hc0 hc1
    obtain ⟨x3_2, h_2⟩ := q
    have hf : bX4_firstLaid_2 h r0 r1 x2 x3_2 h_2 = some (e_2, q_2) := hf
    unfold bX4_firstLaid_2 at hf
    show zG p l e { frames := 0, cells := 0, slots := 0, locals := 0 } s m args below meth c (MQ below (zQ D cA base h hE (some (.int rE))) args s 0 0 (zA base)) 4 D cA base h 2 [(0, .ref (base + r0)), (1, .ref (base + r1)), (2, .int x2), (3, .int x3_2)] [] h_2
    refine g_iload_n X 3 dX4_firstLaid_2 rfl ?_
    refine g_aload_n X 0 dX4_firstLaid_3 rfl ?_
    obtain ⟨hk1, hf⟩ := zite hf
    obtain ⟨r_2, hr_2, hf⟩ := zbd hf
    refine g_get X zf4 hk1 1 (by decide) w_f_RX4_18 rfl (zfv_r hr_2 rfl) dX4_firstLaid_4 ?_
    obtain ⟨hk3, hf⟩ := zite hf
    obtain ⟨r_4, hr_4, hf⟩ := zbd hf
    refine g_get X zf9 hk3 1 (by decide) w_f_RX4_68 rfl (zfv_r hr_4 rfl) dX4_firstLaid_7 ?_
    obtain ⟨hk5, hf⟩ := zite hf
    refine g_get X zf0 hk5 9 (by decide) w_f_RX4_115 rfl rfl dX4_firstLaid_10 ?_
    refine g_icmp_ge X 34 dX4_firstLaid_13 (by decide) (fun hq => ?_) (fun hq => ?_)
    · have hf := zpos hq hf
      cases hf
      have hc1 := hc1 (by decide)
      exact g_sub [] rfl (zun_n (by decide) hc1)
    · have hf := zneg hq hf
      refine g_aload_n X 1 dX4_firstLaid_16 rfl ?_
      obtain ⟨hk6, hf⟩ := zite hf
      obtain ⟨r_7, hr_7, hf⟩ := zbd hf
      refine g_get X zf2 hk6 1 (by decide) w_f_RX4_138 rfl (zfv_r hr_7 rfl) dX4_firstLaid_17 ?_
      refine g_iload_n X 3 dX4_firstLaid_20 rfl ?_
      obtain ⟨hk8, hf⟩ := zite hf
      obtain ⟨hi9, hf⟩ := zite hf
      refine g_iald X hk8 hi9 dX4_firstLaid_21 ?_
      refine g_iload_n X 2 dX4_firstLaid_22 rfl ?_
      refine g_icmp_ne X 28 dX4_firstLaid_23 (by decide) (fun hq => ?_) (fun hq => ?_)
      · have hf := zneg hq hf
        obtain ⟨y10, ey10⟩ : ∃ y : Int32, y = x3_2 + (1 : Int32) := ⟨_, rfl⟩
        have hf := zlet_n ey10 hf
        refine g_iinc X (j := 3) [(3, .int y10), (0, .ref (base + r0)), (1, .ref (base + r1)), (2, .int x2)] dX4_firstLaid_28 rfl (by rw [ey10]; rfl) (by decide) rfl ?_
        refine g_goto X 2 dX4_firstLaid_31 (by decide) ?_
        cases hf
        exact g_sub [1, 2, 3, 0] rfl (hc0 rfl)
      · have hf := zpos hq hf
        cases hf
        have hc1 := hc1 (by decide)
        exact g_sub [3] rfl (zun_p rfl hc1)
  · obtain ⟨ee, x3_k2, h_k2⟩ := qq
    have hf : kX4_firstLaid_2 h ee x3_k2 h_k2 = some (rE, hE) := hf
    unfold kX4_firstLaid_2 at hf
    by_cases hee0 : ee = 1
    · have hf := zpos hee0 hf
      refine zifp hee0 ?_
      show zG p l e { frames := 0, cells := 0, slots := 0, locals := 0 } s m args below meth c (MQ below (zQ D cA base h hE (some (.int rE))) args s 0 0 (zA base)) 4 D cA base h 26 [(3, .int x3_k2)] [] h_k2
      refine g_iload_n X 0 dX4_firstLaid_26 rfl ?_
      obtain ⟨rfl, rfl⟩ := zsm hf
      exact g_iret X hr dX4_firstLaid_27
    have hf := zneg hee0 hf
    refine zifn hee0 ?_
    show zG p l e { frames := 0, cells := 0, slots := 0, locals := 0 } s m args below meth c (MQ below (zQ D cA base h hE (some (.int rE))) args s 0 0 (zA base)) 4 D cA base h 34 [] [] h_k2
    refine g_bipush X (v := -2) dX4_firstLaid_34 (by decide) ?_
    obtain ⟨rfl, rfl⟩ := zsm hf
    exact g_iret X hr dX4_firstLaid_36

set_option maxHeartbeats 4000000 in
set_option maxRecDepth 100000 in
theorem sX4_failedHand {l : Launch} {D : va_G} {cA : Nat → ClassId} {base : Nat} {sA : Nat → Nat} {r0 : Nat} {r1 : Nat} {x2 : Int32} {h hE : Zh} {rE : Int32} (hf : fX4_failedHand r0 r1 x2 h = some (rE, hE)) : zC l yX4_failedHand cX4_failedHand 5 (some .int) 0 0 D cA base sA [.ref (base + r0), .ref (base + r1), .int x2] h (some (.int rE)) hE := by
  refine g_entry RX4 (by decide) rfl (Nat.le_of_ble_eq_true rfl) ?_
  intro p e s m args below meth c X hr
  unfold fX4_failedHand at hf
  have hf := zlet_n (x := h) rfl hf
  show zG p l e { frames := 0, cells := 0, slots := 0, locals := 0 } s m args below meth c (MQ below (zQ D cA base h hE (some (.int rE))) args s 0 0 (zA base)) 5 D cA base h 0 [(0, .ref (base + r0)), (1, .ref (base + r1)), (2, .int x2)] [] h
  refine g_iload_n X 2 dX4_failedHand_0 rfl ?_
  refine g_if_lt X 12 dX4_failedHand_1 (by decide) (fun hq => ?_) (fun hq => ?_)
  · have hf := zpos hq hf
    refine g_bipush X (v := -2) dX4_failedHand_12 (by decide) ?_
    obtain ⟨rfl, rfl⟩ := zsm hf
    exact g_iret X hr dX4_failedHand_14
  · have hf := zneg hq hf
    refine g_iload_n X 2 dX4_failedHand_4 rfl ?_
    refine g_aload_n X 1 dX4_failedHand_5 rfl ?_
    obtain ⟨hk1, hf⟩ := zite hf
    refine g_get X zf2 hk1 3 (by decide) w_f_RX4_141 rfl rfl dX4_failedHand_6 ?_
    refine g_icmp_lt X 15 dX4_failedHand_9 (by decide) (fun hq => ?_) (fun hq => ?_)
    · have hf := zpos hq hf
      refine g_iload_n X 2 dX4_failedHand_15 rfl ?_
      refine g_istore_n X [(3, .int x2), (0, .ref (base + r0)), (1, .ref (base + r1)), (2, .int x2)] dX4_failedHand_16 (by decide) rfl ?_
      refine g_iconst X (v := 0) dX4_failedHand_17 (by decide) ?_
      refine g_istore X [(4, .int ((0 : Int32))), (3, .int x2), (0, .ref (base + r0)), (1, .ref (base + r1)), (2, .int x2)] dX4_failedHand_18 (by decide) rfl ?_
      refine g_sub [2, 3, 1, 0] rfl ?_
      obtain ⟨qq, hlp, hf⟩ := zbd hf
      refine lp_snd (body := (fun q : Int32 × Int32 × Zh => bX4_failedHand_20 h r0 r1 q.1 q.2.1 q.2.2)) (P := (fun q : Int32 × Int32 × Zh => zG p l e { frames := 0, cells := 0, slots := 0, locals := 0 } s m args below meth c (MQ below (zQ D cA base h hE (some (.int rE))) args s 0 0 (zA base)) 5 D cA base h 20 [(0, .ref (base + r0)), (1, .ref (base + r1)), (3, .int q.1), (4, .int q.2.1)] [] q.2.2)) (E := (fun (en : Nat) (q : Int32 × Int32 × Zh) => if en = 1 then zG p l e { frames := 0, cells := 0, slots := 0, locals := 0 } s m args below meth c (MQ below (zQ D cA base h hE (some (.int rE))) args s 0 0 (zA base)) 5 D cA base h 49 [(4, .int q.2.1)] [] q.2.2 else zG p l e { frames := 0, cells := 0, slots := 0, locals := 0 } s m args below meth c (MQ below (zQ D cA base h hE (some (.int rE))) args s 0 0 (zA base)) 5 D cA base h 61 [] [] q.2.2)) ?_ zB (x2, ((0 : Int32), h)) qq.1 qq.2 hlp ?_
      · intro q e_20 q_20 hf hc0 hc1
        obtain ⟨x3_20, x4_20, h_20⟩ := q
        have hf : bX4_failedHand_20 h r0 r1 x3_20 x4_20 h_20 = some (e_20, q_20) := hf
        unfold bX4_failedHand_20 at hf
        show zG p l e { frames := 0, cells := 0, slots := 0, locals := 0 } s m args below meth c (MQ below (zQ D cA base h hE (some (.int rE))) args s 0 0 (zA base)) 5 D cA base h 20 [(0, .ref (base + r0)), (1, .ref (base + r1)), (3, .int x3_20), (4, .int x4_20)] [] h_20
        refine g_iload X 3 dX4_failedHand_20 rfl ?_
        refine g_aload_n X 0 dX4_failedHand_22 rfl ?_
        obtain ⟨hk2, hf⟩ := zite hf
        obtain ⟨r_3, hr_3, hf⟩ := zbd hf
        refine g_get X zf4 hk2 1 (by decide) w_f_RX4_18 rfl (zfv_r hr_3 rfl) dX4_failedHand_23 ?_
        obtain ⟨hk4, hf⟩ := zite hf
        obtain ⟨r_5, hr_5, hf⟩ := zbd hf
        refine g_get X zf9 hk4 1 (by decide) w_f_RX4_68 rfl (zfv_r hr_5 rfl) dX4_failedHand_26 ?_
        obtain ⟨hk6, hf⟩ := zite hf
        refine g_get X zf0 hk6 9 (by decide) w_f_RX4_115 rfl rfl dX4_failedHand_29 ?_
        refine g_icmp_ge X 61 dX4_failedHand_32 (by decide) (fun hq => ?_) (fun hq => ?_)
        · have hf := zpos hq hf
          cases hf
          have hc1 := hc1 (by decide)
          exact g_sub [] rfl (zun_n (by decide) hc1)
        · have hf := zneg hq hf
          refine g_aload_n X 1 dX4_failedHand_35 rfl ?_
          obtain ⟨r_7, hr_7, hf⟩ := zbd hf
          refine g_get X zf2 hk1 1 (by decide) w_f_RX4_138 rfl (zfv_r hr_7 rfl) dX4_failedHand_36 ?_
          refine g_iload X 3 dX4_failedHand_39 rfl ?_
          obtain ⟨hk8, hf⟩ := zite hf
          obtain ⟨hi9, hf⟩ := zite hf
          refine g_iald X hk8 hi9 dX4_failedHand_41 ?_
          refine g_if_ge X 55 dX4_failedHand_42 (by decide) (fun hq => ?_) (fun hq => ?_)
          · have hf := zpos hq hf
            obtain ⟨y10, ey10⟩ : ∃ y : Int32, y = x4_20 + (1 : Int32) := ⟨_, rfl⟩
            have hf := zlet_n ey10 hf
            refine g_iinc X (j := 3) [(4, .int y10), (0, .ref (base + r0)), (1, .ref (base + r1)), (3, .int x3_20)] dX4_failedHand_55 rfl (by rw [ey10]; rfl) (by decide) rfl ?_
            refine g_goto X 20 dX4_failedHand_58 (by decide) ?_
            cases hf
            exact g_sub [1, 2, 3, 0] rfl (hc0 rfl)
          · have hf := zneg hq hf
            refine g_iload_n X 2 dX4_failedHand_45 rfl ?_
            refine g_if_ne X 52 dX4_failedHand_46 (by decide) (fun hq => ?_) (fun hq => ?_)
            · have hf := zneg hq hf
              obtain ⟨y11, ey11⟩ : ∃ y : Int32, y = x3_20 + (-1 : Int32) := ⟨_, rfl⟩
              have hf := zlet_n ey11 hf
              refine g_iinc X (j := 2) [(3, .int y11), (0, .ref (base + r0)), (1, .ref (base + r1)), (4, .int x4_20)] dX4_failedHand_52 rfl (by rw [ey11]; rfl) (by decide) rfl ?_
              obtain ⟨y12, ey12⟩ : ∃ y : Int32, y = x4_20 + (1 : Int32) := ⟨_, rfl⟩
              have hf := zlet_n ey12 hf
              refine g_iinc X (j := 3) [(4, .int y12), (3, .int y11), (0, .ref (base + r0)), (1, .ref (base + r1))] dX4_failedHand_55 rfl (by rw [ey12]; rfl) (by decide) rfl ?_
              refine g_goto X 20 dX4_failedHand_58 (by decide) ?_
              cases hf
              exact g_sub [2, 3, 1, 0] rfl (hc0 rfl)
            · have hf := zpos hq hf
              cases hf
              have hc1 := hc1 (by decide)
              exact g_sub [3] rfl (zun_p rfl hc1)
      · obtain ⟨ee, x3_k20, x4_k20, h_k20⟩ := qq
        have hf : kX4_failedHand_20 h ee x3_k20 x4_k20 h_k20 = some (rE, hE) := hf
        unfold kX4_failedHand_20 at hf
        by_cases hee0 : ee = 1
        · have hf := zpos hee0 hf
          refine zifp hee0 ?_
          show zG p l e { frames := 0, cells := 0, slots := 0, locals := 0 } s m args below meth c (MQ below (zQ D cA base h hE (some (.int rE))) args s 0 0 (zA base)) 5 D cA base h 49 [(4, .int x4_k20)] [] h_k20
          refine g_iload X 0 dX4_failedHand_49 rfl ?_
          obtain ⟨rfl, rfl⟩ := zsm hf
          exact g_iret X hr dX4_failedHand_51
        have hf := zneg hee0 hf
        refine zifn hee0 ?_
        show zG p l e { frames := 0, cells := 0, slots := 0, locals := 0 } s m args below meth c (MQ below (zQ D cA base h hE (some (.int rE))) args s 0 0 (zA base)) 5 D cA base h 61 [] [] h_k20
        refine g_bipush X (v := -2) dX4_failedHand_61 (by decide) ?_
        obtain ⟨rfl, rfl⟩ := zsm hf
        exact g_iret X hr dX4_failedHand_63
    · have hf := zneg hq hf
      refine g_bipush X (v := -2) dX4_failedHand_12 (by decide) ?_
      obtain ⟨rfl, rfl⟩ := zsm hf
      exact g_iret X hr dX4_failedHand_14

set_option maxHeartbeats 4000000 in
set_option maxRecDepth 100000 in
theorem sX8_clear {l : Launch} {D : va_G} {cA : Nat → ClassId} {base : Nat} {sA : Nat → Nat} {r0 : Nat} {h hE : Zh} (hf : fX8_clear r0 h = some hE) : zC l yX8_clear cX8_clear 1 none 0 0 D cA base sA [.ref (base + r0)] h none hE := by
  refine g_entry RX8 (by decide) rfl (Nat.le_of_ble_eq_true rfl) ?_
  intro p e s m args below meth c X hr
  unfold fX8_clear at hf
  have hf := zlet_n (x := h) rfl hf
  show zG p l e { frames := 0, cells := 0, slots := 0, locals := 0 } s m args below meth c (MQ below (zQ D cA base h hE none) args s 0 0 (zA base)) 1 D cA base h 0 [(0, .ref (base + r0))] [] h
  refine g_aload_n X 0 dX8_clear_0 rfl ?_
  refine g_dup X dX8_clear_1 rfl ?_
  obtain ⟨hk1, hf⟩ := zite hf
  refine g_get X zf8 hk1 3 (by decide) w_f_RX8_21 rfl rfl dX8_clear_2 ?_
  refine g_iconst X (v := 1) dX8_clear_5 (by decide) ?_
  refine g_iadd X dX8_clear_6 ?_
  refine g_putI X zf8 hk1 3 (by decide) w_f_RX8_21 rfl rfl rfl dX8_clear_7 ?_
  refine g_hp (fun h2 eh2 => ?_)
  have hf := zlet_n eh2 hf
  cases hf
  exact g_vret X hr dX8_clear_10

