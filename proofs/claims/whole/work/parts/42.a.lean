/-! FifthCard Deck init -/
def fX0_init (r0 : Nat) (h : Zh) : Option Zh := zlet h fun g =>
  if zK h r0 = 0 then zlet (zsI h r0 11 ((1 : Int32))) fun h2 => if zK h2 r0 = 0 then zlet (zsI h2 r0 12 ((1 : Int32))) fun h4 => some h4 else none else none
/-! FifthCard Diary init -/
def fX1_init (r0 : Nat) (h : Zh) : Option Zh := zlet h fun g =>
  if 0 ≤ ((20 : Int32)).toInt ∧ ((20 : Int32)).toInt ≤ 1000000 then if zN h + 1 ≤ zNC ∧ zS h + ((20 : Int32)).toNatClampNeg ≤ zNS then zlet (znw h 100 ((20 : Int32)).toNatClampNeg ((20 : Int32)).toNatClampNeg) fun h2 => if zK h2 r0 = 1 then zlet (zsR h2 r0 0 (some (zN h))) fun h5 => if 0 ≤ ((20 : Int32)).toInt ∧ ((20 : Int32)).toInt ≤ 1000000 then if zN h5 + 1 ≤ zNC ∧ zS h5 + ((20 : Int32)).toNatClampNeg ≤ zNS then zlet (znw h5 100 ((20 : Int32)).toNatClampNeg ((20 : Int32)).toNatClampNeg) fun h7 => if zK h7 r0 = 1 then zlet (zsR h7 r0 1 (some (zN h5))) fun h10 => some h10 else none else none else none else none else none else none
/-! FifthCard Laid init -/
def fX2_init (r0 : Nat) (x1 : Int32) (h : Zh) : Option Zh := zlet h fun g =>
  if 0 ≤ ((2000 : Int32)).toInt ∧ ((2000 : Int32)).toInt ≤ 1000000 then if zN h + 1 ≤ zNC ∧ zS h + ((2000 : Int32)).toNatClampNeg ≤ zNS then zlet (znw h 100 ((2000 : Int32)).toNatClampNeg ((2000 : Int32)).toNatClampNeg) fun h2 => if zK h2 r0 = 2 then zlet (zsR h2 r0 1 (some (zN h))) fun h5 => if zK h5 r0 = 2 then zlet (zsI h5 r0 0 x1) fun h7 => some h7 else none else none else none else none
/-! FifthCard Layer init -/
def fX3_init (r0 : Nat) (h : Zh) : Option Zh := zlet h fun g =>
  if 0 ≤ ((5 : Int32)).toInt ∧ ((5 : Int32)).toInt ≤ 1000000 then if zN h + 1 ≤ zNC ∧ zS h + ((5 : Int32)).toNatClampNeg ≤ zNS then zlet (znw h 100 ((5 : Int32)).toNatClampNeg ((5 : Int32)).toNatClampNeg) fun h2 => if zK h2 r0 = 3 then zlet (zsR h2 r0 0 (some (zN h))) fun h5 => if 0 ≤ ((5 : Int32)).toInt ∧ ((5 : Int32)).toInt ≤ 1000000 then if zN h5 + 1 ≤ zNC ∧ zS h5 + ((5 : Int32)).toNatClampNeg ≤ zNS then zlet (znw h5 100 ((5 : Int32)).toNatClampNeg ((5 : Int32)).toNatClampNeg) fun h7 => if zK h7 r0 = 3 then zlet (zsR h7 r0 1 (some (zN h5))) fun h10 => some h10 else none else none else none else none else none else none
/-! FifthCard Told init -/
def fX9_init (r0 : Nat) (h : Zh) : Option Zh := zlet h fun g =>
  if zN h + 1 ≤ zNC ∧ zS h + 13 ≤ zNS then zlet (znw h 0 0 13) fun h2 => (fX0_init (zN h) h2).bind fun h3 => if zK h3 r0 = 9 then zlet (zsR h3 r0 1 (some (zN h))) fun h5 => if 0 ≤ ((4 : Int32)).toInt ∧ ((4 : Int32)).toInt ≤ 1000000 then if zN h5 + 1 ≤ zNC ∧ zS h5 + ((4 : Int32)).toNatClampNeg ≤ zNS then zlet (znw h5 100 ((4 : Int32)).toNatClampNeg ((4 : Int32)).toNatClampNeg) fun h7 => if zK h7 r0 = 9 then zlet (zsR h7 r0 2 (some (zN h5))) fun h10 => if zN h10 + 1 ≤ zNC ∧ zS h10 + 4 ≤ zNS then zlet (znw h10 1 0 4) fun h12 => (fX1_init (zN h10) h12).bind fun h13 => if zK h13 r0 = 9 then zlet (zsR h13 r0 4 (some (zN h10))) fun h15 => some h15 else none else none else none else none else none else none else none
/-! FifthCard Lister init -/
def fX5_init (r0 : Nat) (h : Zh) : Option Zh := zlet h fun g =>
  if 0 ≤ ((5 : Int32)).toInt ∧ ((5 : Int32)).toInt ≤ 1000000 then if zN h + 1 ≤ zNC ∧ zS h + ((5 : Int32)).toNatClampNeg ≤ zNS then zlet (znw h 100 ((5 : Int32)).toNatClampNeg ((5 : Int32)).toNatClampNeg) fun h2 => if zK h2 r0 = 5 then zlet (zsR h2 r0 0 (some (zN h))) fun h5 => some h5 else none else none else none
/-! FifthCard RowSet init -/
def fX8_init (r0 : Nat) (h : Zh) : Option Zh := zlet h fun g =>
  if 0 ≤ ((4096 : Int32)).toInt ∧ ((4096 : Int32)).toInt ≤ 1000000 then if zN h + 1 ≤ zNC ∧ zS h + ((4096 : Int32)).toNatClampNeg ≤ zNS then zlet (znw h 100 ((4096 : Int32)).toNatClampNeg ((4096 : Int32)).toNatClampNeg) fun h2 => if zK h2 r0 = 8 then zlet (zsR h2 r0 0 (some (zN h))) fun h5 => if 0 ≤ ((4096 : Int32)).toInt ∧ ((4096 : Int32)).toInt ≤ 1000000 then if zN h5 + 1 ≤ zNC ∧ zS h5 + ((4096 : Int32)).toNatClampNeg ≤ zNS then zlet (znw h5 100 ((4096 : Int32)).toNatClampNeg ((4096 : Int32)).toNatClampNeg) fun h7 => if zK h7 r0 = 8 then zlet (zsR h7 r0 1 (some (zN h5))) fun h10 => if 0 ≤ ((4096 : Int32)).toInt ∧ ((4096 : Int32)).toInt ≤ 1000000 then if zN h10 + 1 ≤ zNC ∧ zS h10 + ((4096 : Int32)).toNatClampNeg ≤ zNS then zlet (znw h10 100 ((4096 : Int32)).toNatClampNeg ((4096 : Int32)).toNatClampNeg) fun h12 => if zK h12 r0 = 8 then zlet (zsR h12 r0 2 (some (zN h10))) fun h15 => some h15 else none else none else none else none else none else none else none else none else none
/-! FifthCard Pairing init -/
def fX6_init (r0 : Nat) (h : Zh) : Option Zh := zlet h fun g =>
  if 0 ≤ ((300 : Int32)).toInt ∧ ((300 : Int32)).toInt ≤ 1000000 then if zN h + 1 ≤ zNC ∧ zS h + ((300 : Int32)).toNatClampNeg ≤ zNS then zlet (znw h 100 ((300 : Int32)).toNatClampNeg ((300 : Int32)).toNatClampNeg) fun h2 => if zK h2 r0 = 6 then zlet (zsR h2 r0 0 (some (zN h))) fun h5 => if zN h5 + 1 ≤ zNC ∧ zS h5 + 13 ≤ zNS then zlet (znw h5 0 0 13) fun h7 => (fX0_init (zN h5) h7).bind fun h8 => if zK h8 r0 = 6 then zlet (zsR h8 r0 3 (some (zN h5))) fun h10 => if 0 ≤ ((0 : Int32)).toInt ∧ ((0 : Int32)).toInt ≤ 1000000 then if zN h10 + 1 ≤ zNC ∧ zS h10 + ((0 : Int32)).toNatClampNeg ≤ zNS then zlet (znw h10 100 ((0 : Int32)).toNatClampNeg ((0 : Int32)).toNatClampNeg) fun h12 => if zK h12 r0 = 6 then zlet (zsR h12 r0 4 (some (zN h10))) fun h15 => if 0 ≤ ((120 : Int32)).toInt ∧ ((120 : Int32)).toInt ≤ 1000000 then if zN h15 + 1 ≤ zNC ∧ zS h15 + ((120 : Int32)).toNatClampNeg ≤ zNS then zlet (znw h15 100 ((120 : Int32)).toNatClampNeg ((120 : Int32)).toNatClampNeg) fun h17 => if zK h17 r0 = 6 then zlet (zsR h17 r0 5 (some (zN h15))) fun h20 => if 0 ≤ ((5 : Int32)).toInt ∧ ((5 : Int32)).toInt ≤ 1000000 then if zN h20 + 1 ≤ zNC ∧ zS h20 + ((5 : Int32)).toNatClampNeg ≤ zNS then zlet (znw h20 100 ((5 : Int32)).toNatClampNeg ((5 : Int32)).toNatClampNeg) fun h22 => if zK h22 r0 = 6 then zlet (zsR h22 r0 7 (some (zN h20))) fun h25 => if 0 ≤ ((0 : Int32)).toInt ∧ ((0 : Int32)).toInt ≤ 1000000 then if zN h25 + 1 ≤ zNC ∧ zS h25 + ((0 : Int32)).toNatClampNeg ≤ zNS then zlet (znw h25 100 ((0 : Int32)).toNatClampNeg ((0 : Int32)).toNatClampNeg) fun h27 => if zK h27 r0 = 6 then zlet (zsR h27 r0 8 (some (zN h25))) fun h30 => if 0 ≤ ((0 : Int32)).toInt ∧ ((0 : Int32)).toInt ≤ 1000000 then if zN h30 + 1 ≤ zNC ∧ zS h30 + ((0 : Int32)).toNatClampNeg ≤ zNS then zlet (znw h30 100 ((0 : Int32)).toNatClampNeg ((0 : Int32)).toNatClampNeg) fun h32 => if zK h32 r0 = 6 then zlet (zsR h32 r0 9 (some (zN h30))) fun h35 => if 0 ≤ ((300 : Int32)).toInt ∧ ((300 : Int32)).toInt ≤ 1000000 then if zN h35 + 1 ≤ zNC ∧ zS h35 + ((300 : Int32)).toNatClampNeg ≤ zNS then zlet (znw h35 100 ((300 : Int32)).toNatClampNeg ((300 : Int32)).toNatClampNeg) fun h37 => if zK h37 r0 = 6 then zlet (zsR h37 r0 11 (some (zN h35))) fun h40 => if 0 ≤ ((300 : Int32)).toInt ∧ ((300 : Int32)).toInt ≤ 1000000 then if zN h40 + 1 ≤ zNC ∧ zS h40 + ((300 : Int32)).toNatClampNeg ≤ zNS then zlet (znw h40 100 ((300 : Int32)).toNatClampNeg ((300 : Int32)).toNatClampNeg) fun h42 => if zK h42 r0 = 6 then zlet (zsR h42 r0 12 (some (zN h40))) fun h45 => if 0 ≤ ((300 : Int32)).toInt ∧ ((300 : Int32)).toInt ≤ 1000000 then if zN h45 + 1 ≤ zNC ∧ zS h45 + ((300 : Int32)).toNatClampNeg ≤ zNS then zlet (znw h45 100 ((300 : Int32)).toNatClampNeg ((300 : Int32)).toNatClampNeg) fun h47 => if zK h47 r0 = 6 then zlet (zsR h47 r0 13 (some (zN h45))) fun h50 => some h50 else none else none else none else none else none else none else none else none else none else none else none else none else none else none else none else none else none else none else none else none else none else none else none else none else none else none else none else none else none
/-! FifthCard Ledger init -/
def fX4_init (r0 : Nat) (h : Zh) : Option Zh := zlet h fun g =>
  if 0 ≤ ((2000 : Int32)).toInt ∧ ((2000 : Int32)).toInt ≤ 1000000 then if zN h + 1 ≤ zNC ∧ zS h + ((2000 : Int32)).toNatClampNeg ≤ zNS then zlet (znw h 100 ((2000 : Int32)).toNatClampNeg ((2000 : Int32)).toNatClampNeg) fun h2 => if zK h2 r0 = 4 then zlet (zsR h2 r0 0 (some (zN h))) fun h5 => if zN h5 + 1 ≤ zNC ∧ zS h5 + 5 ≤ zNS then zlet (znw h5 9 0 5) fun h7 => (fX9_init (zN h5) h7).bind fun h8 => if zK h8 r0 = 4 then zlet (zsR h8 r0 1 (some (zN h5))) fun h10 => if zN h10 + 1 ≤ zNC ∧ zS h10 + 1 ≤ zNS then zlet (znw h10 5 0 1) fun h12 => (fX5_init (zN h10) h12).bind fun h13 => if zK h13 r0 = 4 then zlet (zsR h13 r0 2 (some (zN h10))) fun h15 => if zN h15 + 1 ≤ zNC ∧ zS h15 + 2 ≤ zNS then zlet (znw h15 3 0 2) fun h17 => (fX3_init (zN h15) h17).bind fun h18 => if zK h18 r0 = 4 then zlet (zsR h18 r0 3 (some (zN h15))) fun h20 => if zN h20 + 1 ≤ zNC ∧ zS h20 + 4 ≤ zNS then zlet (znw h20 8 0 4) fun h22 => (fX8_init (zN h20) h22).bind fun h23 => if zK h23 r0 = 4 then zlet (zsR h23 r0 4 (some (zN h20))) fun h25 => if zN h25 + 1 ≤ zNC ∧ zS h25 + 15 ≤ zNS then zlet (znw h25 6 0 15) fun h27 => (fX6_init (zN h25) h27).bind fun h28 => if zK h28 r0 = 4 then zlet (zsR h28 r0 5 (some (zN h25))) fun h30 => if 0 ≤ ((4 : Int32)).toInt ∧ ((4 : Int32)).toInt ≤ 1000000 then if zN h30 + 1 ≤ zNC ∧ zS h30 + ((4 : Int32)).toNatClampNeg ≤ zNS then zlet (znw h30 104 ((4 : Int32)).toNatClampNeg ((4 : Int32)).toNatClampNeg) fun h32 => if zN h32 + 1 ≤ zNC ∧ zS h32 + 10 ≤ zNS then zlet (znw h32 2 0 10) fun h35 => (fX2_init (zN h32) ((0 : Int32)) h35).bind fun h36 => if zK h36 (zN h30) = 104 then if zK h36 (zN h32) = 2 then if zin ((0 : Int32)) (zL h36 (zN h30)) then zlet (zsR h36 (zN h30) ((0 : Int32)).toNatClampNeg (some (zN h32))) fun h40 => if zN h40 + 1 ≤ zNC ∧ zS h40 + 10 ≤ zNS then zlet (znw h40 2 0 10) fun h42 => (fX2_init (zN h40) ((1 : Int32)) h42).bind fun h43 => if zK h43 (zN h30) = 104 then if zK h43 (zN h40) = 2 then if zin ((1 : Int32)) (zL h43 (zN h30)) then zlet (zsR h43 (zN h30) ((1 : Int32)).toNatClampNeg (some (zN h40))) fun h47 => if zN h47 + 1 ≤ zNC ∧ zS h47 + 10 ≤ zNS then zlet (znw h47 2 0 10) fun h49 => (fX2_init (zN h47) ((2 : Int32)) h49).bind fun h50 => if zK h50 (zN h30) = 104 then if zK h50 (zN h47) = 2 then if zin ((2 : Int32)) (zL h50 (zN h30)) then zlet (zsR h50 (zN h30) ((2 : Int32)).toNatClampNeg (some (zN h47))) fun h54 => if zN h54 + 1 ≤ zNC ∧ zS h54 + 10 ≤ zNS then zlet (znw h54 2 0 10) fun h56 => (fX2_init (zN h54) ((3 : Int32)) h56).bind fun h57 => if zK h57 (zN h30) = 104 then if zK h57 (zN h54) = 2 then if zin ((3 : Int32)) (zL h57 (zN h30)) then zlet (zsR h57 (zN h30) ((3 : Int32)).toNatClampNeg (some (zN h54))) fun h61 => if zK h61 r0 = 4 then zlet (zsR h61 r0 6 (some (zN h30))) fun h63 => if 0 ≤ ((16 : Int32)).toInt ∧ ((16 : Int32)).toInt ≤ 1000000 then if zN h63 + 1 ≤ zNC ∧ zS h63 + ((16 : Int32)).toNatClampNeg ≤ zNS then zlet (znw h63 100 ((16 : Int32)).toNatClampNeg ((16 : Int32)).toNatClampNeg) fun h65 => if zK h65 r0 = 4 then zlet (zsR h65 r0 7 (some (zN h63))) fun h68 => if 0 ≤ ((20 : Int32)).toInt ∧ ((20 : Int32)).toInt ≤ 1000000 then if zN h68 + 1 ≤ zNC ∧ zS h68 + ((20 : Int32)).toNatClampNeg ≤ zNS then zlet (znw h68 100 ((20 : Int32)).toNatClampNeg ((20 : Int32)).toNatClampNeg) fun h70 => if zK h70 r0 = 4 then zlet (zsR h70 r0 8 (some (zN h68))) fun h73 => if 0 ≤ ((5 : Int32)).toInt ∧ ((5 : Int32)).toInt ≤ 1000000 then if zN h73 + 1 ≤ zNC ∧ zS h73 + ((5 : Int32)).toNatClampNeg ≤ zNS then zlet (znw h73 100 ((5 : Int32)).toNatClampNeg ((5 : Int32)).toNatClampNeg) fun h75 => if zK h75 r0 = 4 then zlet (zsR h75 r0 10 (some (zN h73))) fun h78 => some h78 else none else none else none else none else none else none else none else none else none else none else none else none else none else none else none else none else none else none else none else none else none else none else none else none else none else none else none else none else none else none else none else none else none else none else none else none else none else none else none else none else none
/-! FifthCard Pairing clear -/
def bX6_clear_144 (g : Zh) (r0 : Nat) (x3 : Int32) (h : Zh) : Option (Nat × Int32 × Zh) :=
  if zK h r0 = 6 then (zR h r0 3).bind fun r_47 => if zK h r_47 = 0 then if (zI h r_47 9) ≤ x3 then some (1, (x3, h)) else (zR h r0 3).bind fun r_49 => if zK h r_49 = 0 then if (zI h r_49 6) = 0 then some (1, (x3, h)) else (fX6_sortRows r0 x3 h).bind fun h51 => zlet (x3 + (1 : Int32)) fun y52 => some (0, (y52, h51)) else none else none else none
def kX6_clear_144 (g : Zh)  (e : Nat) (x3 : Int32) (h : Zh) : Option Zh :=
  some h
def jX6_clear_121 (g : Zh) (r0 : Nat) (h : Zh) : Option Zh :=
  if zK h r0 = 6 then (zR h r0 9).bind fun r_39 => (fJ7_fill_53178 r_39 ((0 : Int32)) h).bind fun h40 => if zK h40 r0 = 6 then (zR h40 r0 0).bind fun r_42 => (fJ7_fill_53178 r_42 ((-1 : Int32)) h40).bind fun h43 => if zK h43 r0 = 6 then zlet (zsI h43 r0 10 ((0 : Int32))) fun h45 => (lp (fun q : Int32 × Zh => bX6_clear_144 g r0 q.1 q.2) zB ((0 : Int32), h45)).bind fun q => kX6_clear_144 g q.1 q.2.1 q.2.2 else none else none else none
def jX6_clear_85 (g : Zh) (r0 : Nat) (h : Zh) : Option Zh :=
  if zK h r0 = 6 then (zR h r0 8).bind fun r_31 => (fJ7_fill_53178 r_31 ((0 : Int32)) h).bind fun h32 => if zK h32 r0 = 6 then (zR h32 r0 9).bind fun r_34 => if zK h32 r_34 = 100 then (zR h32 r0 3).bind fun r_36 => if zK h32 r_36 = 0 then if (zI h32 r_36 10) ≤ (Int32.ofNat (zL h32 r_34)) then jX6_clear_121 g r0 h32 else (zR h32 r0 3).bind fun r_53 => if zK h32 r_53 = 0 then if 0 ≤ (zI h32 r_53 10).toInt ∧ (zI h32 r_53 10).toInt ≤ 1000000 then if zN h32 + 1 ≤ zNC ∧ zS h32 + (zI h32 r_53 10).toNatClampNeg ≤ zNS then zlet (znw h32 100 (zI h32 r_53 10).toNatClampNeg (zI h32 r_53 10).toNatClampNeg) fun h56 => if zK h56 r0 = 6 then zlet (zsR h56 r0 9 (some (zN h32))) fun h59 => jX6_clear_121 g r0 h59 else none else none else none else none else none else none else none else none
def jX6_clear_49 (g : Zh) (r0 : Nat) (t0 : Int32) (t1 : Int32) (t2 : Int32) (t3 : Nat) (h : Zh) : Option Zh :=
  if zK h r0 = 6 then (zR h r0 5).bind fun r_21 => if zK h t3 = 5 then (fX5_list t3 t2 t1 t0 r_21 h).bind fun h23 => if zK h23 r0 = 6 then (zR h23 r0 3).bind fun r_25 => if zK h23 r_25 = 0 then zlet ((zI h23 r_25 9) * (zI h23 r0 6)) fun y27 => (zR h23 r0 8).bind fun r_28 => if zK h23 r_28 = 100 then if y27 ≤ (Int32.ofNat (zL h23 r_28)) then jX6_clear_85 g r0 h23 else if 0 ≤ y27.toInt ∧ y27.toInt ≤ 1000000 then if zN h23 + 1 ≤ zNC ∧ zS h23 + y27.toNatClampNeg ≤ zNS then zlet (znw h23 100 y27.toNatClampNeg y27.toNatClampNeg) fun h61 => if zK h61 r0 = 6 then zlet (zsR h61 r0 8 (some (zN h23))) fun h64 => jX6_clear_85 g r0 h64 else none else none else none else none else none else none else none else none
def fX6_clear (r0 : Nat) (r1 : Nat) (h : Zh) : Option Zh := zlet h fun g =>
  if zK h r0 = 6 then (zR h r0 3).bind fun r_2 => if zK h r_2 = 0 then zc2 (fX0_waysToShow r_2 h) fun v5 h4 => if zK h4 r0 = 6 then (zR h4 r0 3).bind fun r_7 => if zK h4 r_7 = 0 then if ¬ (zI h4 r_7 12) = 0 then zlet (zsI h4 r0 6 (v5 / (zI h4 r_7 12))) fun h10 => if zK h10 r0 = 6 then (zR h10 r0 3).bind fun r_12 => if zK h10 r_12 = 0 then (zR h10 r0 3).bind fun r_14 => if zK h10 r_14 = 0 then (zR h10 r0 3).bind fun r_16 => if zK h10 r_16 = 0 then zc2 (fX0_anyOrder r_16 h10) fun v19 h18 => if v19 = 0 then jX6_clear_49 g r0 ((1 : Int32)) (zI h10 r_14 5) (zI h10 r_12 3) r1 h18 else jX6_clear_49 g r0 ((0 : Int32)) (zI h10 r_14 5) (zI h10 r_12 3) r1 h18 else none else none else none else none else none else none else none else none else none
theorem dX0_init_0 : decode cX0_init 0 = .ok (.aload_n 0, 1) := by decide +kernel
theorem dX0_init_1 : decode cX0_init 1 = .ok (.invokespecial 3, 3) := by decide +kernel
theorem dX0_init_4 : decode cX0_init 4 = .ok (.aload_n 0, 1) := by decide +kernel
theorem dX0_init_5 : decode cX0_init 5 = .ok (.iconst 1, 1) := by decide +kernel
theorem dX0_init_6 : decode cX0_init 6 = .ok (.putfield 9, 3) := by decide +kernel
theorem dX0_init_9 : decode cX0_init 9 = .ok (.aload_n 0, 1) := by decide +kernel
theorem dX0_init_10 : decode cX0_init 10 = .ok (.iconst 1, 1) := by decide +kernel
theorem dX0_init_11 : decode cX0_init 11 = .ok (.putfield 15, 3) := by decide +kernel
theorem dX0_init_14 : decode cX0_init 14 = .ok (.return_, 1) := by decide +kernel
theorem dX1_init_0 : decode cX1_init 0 = .ok (.aload_n 0, 1) := by decide +kernel
theorem dX1_init_1 : decode cX1_init 1 = .ok (.invokespecial 3, 3) := by decide +kernel
theorem dX1_init_4 : decode cX1_init 4 = .ok (.aload_n 0, 1) := by decide +kernel
theorem dX1_init_5 : decode cX1_init 5 = .ok (.bipush 20, 2) := by decide +kernel
theorem dX1_init_7 : decode cX1_init 7 = .ok (.newarray .int, 2) := by decide +kernel
theorem dX1_init_9 : decode cX1_init 9 = .ok (.putfield 9, 3) := by decide +kernel
theorem dX1_init_12 : decode cX1_init 12 = .ok (.aload_n 0, 1) := by decide +kernel
theorem dX1_init_13 : decode cX1_init 13 = .ok (.bipush 20, 2) := by decide +kernel
theorem dX1_init_15 : decode cX1_init 15 = .ok (.newarray .int, 2) := by decide +kernel
theorem dX1_init_17 : decode cX1_init 17 = .ok (.putfield 15, 3) := by decide +kernel
theorem dX1_init_20 : decode cX1_init 20 = .ok (.return_, 1) := by decide +kernel
theorem dX2_init_0 : decode cX2_init 0 = .ok (.aload_n 0, 1) := by decide +kernel
theorem dX2_init_1 : decode cX2_init 1 = .ok (.invokespecial 3, 3) := by decide +kernel
theorem dX2_init_4 : decode cX2_init 4 = .ok (.aload_n 0, 1) := by decide +kernel
theorem dX2_init_5 : decode cX2_init 5 = .ok (.sipush 2000, 3) := by decide +kernel
theorem dX2_init_8 : decode cX2_init 8 = .ok (.newarray .int, 2) := by decide +kernel
theorem dX2_init_10 : decode cX2_init 10 = .ok (.putfield 9, 3) := by decide +kernel
theorem dX2_init_13 : decode cX2_init 13 = .ok (.aload_n 0, 1) := by decide +kernel
theorem dX2_init_14 : decode cX2_init 14 = .ok (.iload_n 1, 1) := by decide +kernel
theorem dX2_init_15 : decode cX2_init 15 = .ok (.putfield 15, 3) := by decide +kernel
theorem dX2_init_18 : decode cX2_init 18 = .ok (.return_, 1) := by decide +kernel
theorem dX3_init_0 : decode cX3_init 0 = .ok (.aload_n 0, 1) := by decide +kernel
theorem dX3_init_1 : decode cX3_init 1 = .ok (.invokespecial 3, 3) := by decide +kernel
theorem dX3_init_4 : decode cX3_init 4 = .ok (.aload_n 0, 1) := by decide +kernel
theorem dX3_init_5 : decode cX3_init 5 = .ok (.iconst 5, 1) := by decide +kernel
theorem dX3_init_6 : decode cX3_init 6 = .ok (.newarray .int, 2) := by decide +kernel
theorem dX3_init_8 : decode cX3_init 8 = .ok (.putfield 9, 3) := by decide +kernel
theorem dX3_init_11 : decode cX3_init 11 = .ok (.aload_n 0, 1) := by decide +kernel
theorem dX3_init_12 : decode cX3_init 12 = .ok (.iconst 5, 1) := by decide +kernel
theorem dX3_init_13 : decode cX3_init 13 = .ok (.newarray .int, 2) := by decide +kernel
theorem dX3_init_15 : decode cX3_init 15 = .ok (.putfield 15, 3) := by decide +kernel
theorem dX3_init_18 : decode cX3_init 18 = .ok (.return_, 1) := by decide +kernel
theorem dX9_init_0 : decode cX9_init 0 = .ok (.aload_n 0, 1) := by decide +kernel
theorem dX9_init_1 : decode cX9_init 1 = .ok (.invokespecial 3, 3) := by decide +kernel
theorem dX9_init_4 : decode cX9_init 4 = .ok (.aload_n 0, 1) := by decide +kernel
theorem dX9_init_5 : decode cX9_init 5 = .ok (.new 9, 3) := by decide +kernel
theorem dX9_init_8 : decode cX9_init 8 = .ok (.dup, 1) := by decide +kernel
theorem dX9_init_9 : decode cX9_init 9 = .ok (.invokespecial 11, 3) := by decide +kernel
theorem dX9_init_12 : decode cX9_init 12 = .ok (.putfield 12, 3) := by decide +kernel
theorem dX9_init_15 : decode cX9_init 15 = .ok (.aload_n 0, 1) := by decide +kernel
theorem dX9_init_16 : decode cX9_init 16 = .ok (.iconst 4, 1) := by decide +kernel
theorem dX9_init_17 : decode cX9_init 17 = .ok (.newarray .int, 2) := by decide +kernel
theorem dX9_init_19 : decode cX9_init 19 = .ok (.putfield 18, 3) := by decide +kernel
theorem dX9_init_22 : decode cX9_init 22 = .ok (.aload_n 0, 1) := by decide +kernel
theorem dX9_init_23 : decode cX9_init 23 = .ok (.new 22, 3) := by decide +kernel
theorem dX9_init_26 : decode cX9_init 26 = .ok (.dup, 1) := by decide +kernel
theorem dX9_init_27 : decode cX9_init 27 = .ok (.invokespecial 24, 3) := by decide +kernel
theorem dX9_init_30 : decode cX9_init 30 = .ok (.putfield 25, 3) := by decide +kernel
theorem dX9_init_33 : decode cX9_init 33 = .ok (.return_, 1) := by decide +kernel
theorem dX5_init_0 : decode cX5_init 0 = .ok (.aload_n 0, 1) := by decide +kernel
theorem dX5_init_1 : decode cX5_init 1 = .ok (.invokespecial 3, 3) := by decide +kernel
theorem dX5_init_4 : decode cX5_init 4 = .ok (.aload_n 0, 1) := by decide +kernel
theorem dX5_init_5 : decode cX5_init 5 = .ok (.iconst 5, 1) := by decide +kernel
theorem dX5_init_6 : decode cX5_init 6 = .ok (.newarray .int, 2) := by decide +kernel
theorem dX5_init_8 : decode cX5_init 8 = .ok (.putfield 9, 3) := by decide +kernel
theorem dX5_init_11 : decode cX5_init 11 = .ok (.return_, 1) := by decide +kernel
theorem dX8_init_0 : decode cX8_init 0 = .ok (.aload_n 0, 1) := by decide +kernel
theorem dX8_init_1 : decode cX8_init 1 = .ok (.invokespecial 5, 3) := by decide +kernel
theorem dX8_init_4 : decode cX8_init 4 = .ok (.aload_n 0, 1) := by decide +kernel
theorem dX8_init_5 : decode cX8_init 5 = .ok (.sipush 4096, 3) := by decide +kernel
theorem dX8_init_8 : decode cX8_init 8 = .ok (.newarray .int, 2) := by decide +kernel
theorem dX8_init_10 : decode cX8_init 10 = .ok (.putfield 11, 3) := by decide +kernel
theorem dX8_init_13 : decode cX8_init 13 = .ok (.aload_n 0, 1) := by decide +kernel
theorem dX8_init_14 : decode cX8_init 14 = .ok (.sipush 4096, 3) := by decide +kernel
theorem dX8_init_17 : decode cX8_init 17 = .ok (.newarray .int, 2) := by decide +kernel
theorem dX8_init_19 : decode cX8_init 19 = .ok (.putfield 15, 3) := by decide +kernel
theorem dX8_init_22 : decode cX8_init 22 = .ok (.aload_n 0, 1) := by decide +kernel
theorem dX8_init_23 : decode cX8_init 23 = .ok (.sipush 4096, 3) := by decide +kernel
theorem dX8_init_26 : decode cX8_init 26 = .ok (.newarray .int, 2) := by decide +kernel
theorem dX8_init_28 : decode cX8_init 28 = .ok (.putfield 18, 3) := by decide +kernel
theorem dX8_init_31 : decode cX8_init 31 = .ok (.return_, 1) := by decide +kernel
theorem dX6_init_0 : decode cX6_init 0 = .ok (.aload_n 0, 1) := by decide +kernel
theorem dX6_init_1 : decode cX6_init 1 = .ok (.invokespecial 3, 3) := by decide +kernel
theorem dX6_init_4 : decode cX6_init 4 = .ok (.aload_n 0, 1) := by decide +kernel
theorem dX6_init_5 : decode cX6_init 5 = .ok (.sipush 300, 3) := by decide +kernel
theorem dX6_init_8 : decode cX6_init 8 = .ok (.newarray .int, 2) := by decide +kernel
theorem dX6_init_10 : decode cX6_init 10 = .ok (.putfield 9, 3) := by decide +kernel
theorem dX6_init_13 : decode cX6_init 13 = .ok (.aload_n 0, 1) := by decide +kernel
theorem dX6_init_14 : decode cX6_init 14 = .ok (.new 15, 3) := by decide +kernel
theorem dX6_init_17 : decode cX6_init 17 = .ok (.dup, 1) := by decide +kernel
theorem dX6_init_18 : decode cX6_init 18 = .ok (.invokespecial 17, 3) := by decide +kernel
theorem dX6_init_21 : decode cX6_init 21 = .ok (.putfield 18, 3) := by decide +kernel
theorem dX6_init_24 : decode cX6_init 24 = .ok (.aload_n 0, 1) := by decide +kernel
theorem dX6_init_25 : decode cX6_init 25 = .ok (.iconst 0, 1) := by decide +kernel
theorem dX6_init_26 : decode cX6_init 26 = .ok (.newarray .int, 2) := by decide +kernel
theorem dX6_init_28 : decode cX6_init 28 = .ok (.putfield 22, 3) := by decide +kernel
theorem dX6_init_31 : decode cX6_init 31 = .ok (.aload_n 0, 1) := by decide +kernel
theorem dX6_init_32 : decode cX6_init 32 = .ok (.bipush 120, 2) := by decide +kernel
theorem dX6_init_34 : decode cX6_init 34 = .ok (.newarray .int, 2) := by decide +kernel
theorem dX6_init_36 : decode cX6_init 36 = .ok (.putfield 25, 3) := by decide +kernel
theorem dX6_init_39 : decode cX6_init 39 = .ok (.aload_n 0, 1) := by decide +kernel
theorem dX6_init_40 : decode cX6_init 40 = .ok (.iconst 5, 1) := by decide +kernel
theorem dX6_init_41 : decode cX6_init 41 = .ok (.newarray .int, 2) := by decide +kernel
theorem dX6_init_43 : decode cX6_init 43 = .ok (.putfield 28, 3) := by decide +kernel
theorem dX6_init_46 : decode cX6_init 46 = .ok (.aload_n 0, 1) := by decide +kernel
theorem dX6_init_47 : decode cX6_init 47 = .ok (.iconst 0, 1) := by decide +kernel
theorem dX6_init_48 : decode cX6_init 48 = .ok (.newarray .int, 2) := by decide +kernel
theorem dX6_init_50 : decode cX6_init 50 = .ok (.putfield 31, 3) := by decide +kernel
theorem dX6_init_53 : decode cX6_init 53 = .ok (.aload_n 0, 1) := by decide +kernel
theorem dX6_init_54 : decode cX6_init 54 = .ok (.iconst 0, 1) := by decide +kernel
theorem dX6_init_55 : decode cX6_init 55 = .ok (.newarray .int, 2) := by decide +kernel
theorem dX6_init_57 : decode cX6_init 57 = .ok (.putfield 34, 3) := by decide +kernel
theorem dX6_init_60 : decode cX6_init 60 = .ok (.aload_n 0, 1) := by decide +kernel
theorem dX6_init_61 : decode cX6_init 61 = .ok (.sipush 300, 3) := by decide +kernel
theorem dX6_init_64 : decode cX6_init 64 = .ok (.newarray .int, 2) := by decide +kernel
theorem dX6_init_66 : decode cX6_init 66 = .ok (.putfield 37, 3) := by decide +kernel
theorem dX6_init_69 : decode cX6_init 69 = .ok (.aload_n 0, 1) := by decide +kernel
theorem dX6_init_70 : decode cX6_init 70 = .ok (.sipush 300, 3) := by decide +kernel
theorem dX6_init_73 : decode cX6_init 73 = .ok (.newarray .int, 2) := by decide +kernel
theorem dX6_init_75 : decode cX6_init 75 = .ok (.putfield 40, 3) := by decide +kernel
theorem dX6_init_78 : decode cX6_init 78 = .ok (.aload_n 0, 1) := by decide +kernel
theorem dX6_init_79 : decode cX6_init 79 = .ok (.sipush 300, 3) := by decide +kernel
theorem dX6_init_82 : decode cX6_init 82 = .ok (.newarray .int, 2) := by decide +kernel
theorem dX6_init_84 : decode cX6_init 84 = .ok (.putfield 43, 3) := by decide +kernel
theorem dX6_init_87 : decode cX6_init 87 = .ok (.return_, 1) := by decide +kernel
theorem dX4_init_0 : decode cX4_init 0 = .ok (.aload_n 0, 1) := by decide +kernel
theorem dX4_init_1 : decode cX4_init 1 = .ok (.invokespecial 3, 3) := by decide +kernel
theorem dX4_init_4 : decode cX4_init 4 = .ok (.aload_n 0, 1) := by decide +kernel
theorem dX4_init_5 : decode cX4_init 5 = .ok (.sipush 2000, 3) := by decide +kernel
theorem dX4_init_8 : decode cX4_init 8 = .ok (.newarray .int, 2) := by decide +kernel
theorem dX4_init_10 : decode cX4_init 10 = .ok (.putfield 9, 3) := by decide +kernel
theorem dX4_init_13 : decode cX4_init 13 = .ok (.aload_n 0, 1) := by decide +kernel
theorem dX4_init_14 : decode cX4_init 14 = .ok (.new 15, 3) := by decide +kernel
theorem dX4_init_17 : decode cX4_init 17 = .ok (.dup, 1) := by decide +kernel
theorem dX4_init_18 : decode cX4_init 18 = .ok (.invokespecial 17, 3) := by decide +kernel
theorem dX4_init_21 : decode cX4_init 21 = .ok (.putfield 18, 3) := by decide +kernel
theorem dX4_init_24 : decode cX4_init 24 = .ok (.aload_n 0, 1) := by decide +kernel
theorem dX4_init_25 : decode cX4_init 25 = .ok (.new 22, 3) := by decide +kernel
theorem dX4_init_28 : decode cX4_init 28 = .ok (.dup, 1) := by decide +kernel
theorem dX4_init_29 : decode cX4_init 29 = .ok (.invokespecial 24, 3) := by decide +kernel
theorem dX4_init_32 : decode cX4_init 32 = .ok (.putfield 25, 3) := by decide +kernel
theorem dX4_init_35 : decode cX4_init 35 = .ok (.aload_n 0, 1) := by decide +kernel
theorem dX4_init_36 : decode cX4_init 36 = .ok (.new 29, 3) := by decide +kernel
theorem dX4_init_39 : decode cX4_init 39 = .ok (.dup, 1) := by decide +kernel
theorem dX4_init_40 : decode cX4_init 40 = .ok (.invokespecial 31, 3) := by decide +kernel
theorem dX4_init_43 : decode cX4_init 43 = .ok (.putfield 32, 3) := by decide +kernel
theorem dX4_init_46 : decode cX4_init 46 = .ok (.aload_n 0, 1) := by decide +kernel
theorem dX4_init_47 : decode cX4_init 47 = .ok (.new 36, 3) := by decide +kernel
theorem dX4_init_50 : decode cX4_init 50 = .ok (.dup, 1) := by decide +kernel
theorem dX4_init_51 : decode cX4_init 51 = .ok (.invokespecial 38, 3) := by decide +kernel
theorem dX4_init_54 : decode cX4_init 54 = .ok (.putfield 39, 3) := by decide +kernel
theorem dX4_init_57 : decode cX4_init 57 = .ok (.aload_n 0, 1) := by decide +kernel
theorem dX4_init_58 : decode cX4_init 58 = .ok (.new 43, 3) := by decide +kernel
theorem dX4_init_61 : decode cX4_init 61 = .ok (.dup, 1) := by decide +kernel
theorem dX4_init_62 : decode cX4_init 62 = .ok (.invokespecial 45, 3) := by decide +kernel
theorem dX4_init_65 : decode cX4_init 65 = .ok (.putfield 46, 3) := by decide +kernel
theorem dX4_init_68 : decode cX4_init 68 = .ok (.aload_n 0, 1) := by decide +kernel
theorem dX4_init_69 : decode cX4_init 69 = .ok (.iconst 4, 1) := by decide +kernel
theorem dX4_init_70 : decode cX4_init 70 = .ok (.anewarray 50, 3) := by decide +kernel
theorem dX4_init_73 : decode cX4_init 73 = .ok (.dup, 1) := by decide +kernel
theorem dX4_init_74 : decode cX4_init 74 = .ok (.iconst 0, 1) := by decide +kernel
theorem dX4_init_75 : decode cX4_init 75 = .ok (.new 50, 3) := by decide +kernel
theorem dX4_init_78 : decode cX4_init 78 = .ok (.dup, 1) := by decide +kernel
theorem dX4_init_79 : decode cX4_init 79 = .ok (.iconst 0, 1) := by decide +kernel
theorem dX4_init_80 : decode cX4_init 80 = .ok (.invokespecial 52, 3) := by decide +kernel
theorem dX4_init_83 : decode cX4_init 83 = .ok (.aastore, 1) := by decide +kernel
theorem dX4_init_84 : decode cX4_init 84 = .ok (.dup, 1) := by decide +kernel
theorem dX4_init_85 : decode cX4_init 85 = .ok (.iconst 1, 1) := by decide +kernel
theorem dX4_init_86 : decode cX4_init 86 = .ok (.new 50, 3) := by decide +kernel
theorem dX4_init_89 : decode cX4_init 89 = .ok (.dup, 1) := by decide +kernel
theorem dX4_init_90 : decode cX4_init 90 = .ok (.iconst 1, 1) := by decide +kernel
theorem dX4_init_91 : decode cX4_init 91 = .ok (.invokespecial 52, 3) := by decide +kernel
theorem dX4_init_94 : decode cX4_init 94 = .ok (.aastore, 1) := by decide +kernel
theorem dX4_init_95 : decode cX4_init 95 = .ok (.dup, 1) := by decide +kernel
theorem dX4_init_96 : decode cX4_init 96 = .ok (.iconst 2, 1) := by decide +kernel
theorem dX4_init_97 : decode cX4_init 97 = .ok (.new 50, 3) := by decide +kernel
theorem dX4_init_100 : decode cX4_init 100 = .ok (.dup, 1) := by decide +kernel
theorem dX4_init_101 : decode cX4_init 101 = .ok (.iconst 2, 1) := by decide +kernel
theorem dX4_init_102 : decode cX4_init 102 = .ok (.invokespecial 52, 3) := by decide +kernel
theorem dX4_init_105 : decode cX4_init 105 = .ok (.aastore, 1) := by decide +kernel
theorem dX4_init_106 : decode cX4_init 106 = .ok (.dup, 1) := by decide +kernel
theorem dX4_init_107 : decode cX4_init 107 = .ok (.iconst 3, 1) := by decide +kernel
theorem dX4_init_108 : decode cX4_init 108 = .ok (.new 50, 3) := by decide +kernel
theorem dX4_init_111 : decode cX4_init 111 = .ok (.dup, 1) := by decide +kernel
theorem dX4_init_112 : decode cX4_init 112 = .ok (.iconst 3, 1) := by decide +kernel
theorem dX4_init_113 : decode cX4_init 113 = .ok (.invokespecial 52, 3) := by decide +kernel
theorem dX4_init_116 : decode cX4_init 116 = .ok (.aastore, 1) := by decide +kernel
theorem dX4_init_117 : decode cX4_init 117 = .ok (.putfield 55, 3) := by decide +kernel
theorem dX4_init_120 : decode cX4_init 120 = .ok (.aload_n 0, 1) := by decide +kernel
theorem dX4_init_121 : decode cX4_init 121 = .ok (.bipush 16, 2) := by decide +kernel
theorem dX4_init_123 : decode cX4_init 123 = .ok (.newarray .int, 2) := by decide +kernel
theorem dX4_init_125 : decode cX4_init 125 = .ok (.putfield 59, 3) := by decide +kernel
theorem dX4_init_128 : decode cX4_init 128 = .ok (.aload_n 0, 1) := by decide +kernel
theorem dX4_init_129 : decode cX4_init 129 = .ok (.bipush 20, 2) := by decide +kernel
theorem dX4_init_131 : decode cX4_init 131 = .ok (.newarray .int, 2) := by decide +kernel
theorem dX4_init_133 : decode cX4_init 133 = .ok (.putfield 62, 3) := by decide +kernel
theorem dX4_init_136 : decode cX4_init 136 = .ok (.aload_n 0, 1) := by decide +kernel
theorem dX4_init_137 : decode cX4_init 137 = .ok (.iconst 5, 1) := by decide +kernel
theorem dX4_init_138 : decode cX4_init 138 = .ok (.newarray .int, 2) := by decide +kernel
theorem dX4_init_140 : decode cX4_init 140 = .ok (.putfield 65, 3) := by decide +kernel
theorem dX4_init_143 : decode cX4_init 143 = .ok (.return_, 1) := by decide +kernel
theorem dX6_clear_0 : decode cX6_clear 0 = .ok (.aload_n 0, 1) := by decide +kernel
theorem dX6_clear_1 : decode cX6_clear 1 = .ok (.aload_n 0, 1) := by decide +kernel
theorem dX6_clear_2 : decode cX6_clear 2 = .ok (.getfield 18, 3) := by decide +kernel
theorem dX6_clear_5 : decode cX6_clear 5 = .ok (.invokevirtual 79, 3) := by decide +kernel
theorem dX6_clear_8 : decode cX6_clear 8 = .ok (.aload_n 0, 1) := by decide +kernel
theorem dX6_clear_9 : decode cX6_clear 9 = .ok (.getfield 18, 3) := by decide +kernel
theorem dX6_clear_12 : decode cX6_clear 12 = .ok (.getfield 83, 3) := by decide +kernel
theorem dX6_clear_15 : decode cX6_clear 15 = .ok (.idiv, 1) := by decide +kernel
theorem dX6_clear_16 : decode cX6_clear 16 = .ok (.putfield 86, 3) := by decide +kernel
theorem dX6_clear_19 : decode cX6_clear 19 = .ok (.aload_n 1, 1) := by decide +kernel
theorem dX6_clear_20 : decode cX6_clear 20 = .ok (.aload_n 0, 1) := by decide +kernel
theorem dX6_clear_21 : decode cX6_clear 21 = .ok (.getfield 18, 3) := by decide +kernel
theorem dX6_clear_24 : decode cX6_clear 24 = .ok (.getfield 89, 3) := by decide +kernel
theorem dX6_clear_27 : decode cX6_clear 27 = .ok (.aload_n 0, 1) := by decide +kernel
theorem dX6_clear_28 : decode cX6_clear 28 = .ok (.getfield 18, 3) := by decide +kernel
theorem dX6_clear_31 : decode cX6_clear 31 = .ok (.getfield 92, 3) := by decide +kernel
theorem dX6_clear_34 : decode cX6_clear 34 = .ok (.aload_n 0, 1) := by decide +kernel
theorem dX6_clear_35 : decode cX6_clear 35 = .ok (.getfield 18, 3) := by decide +kernel
theorem dX6_clear_38 : decode cX6_clear 38 = .ok (.invokevirtual 95, 3) := by decide +kernel
theorem dX6_clear_41 : decode cX6_clear 41 = .ok (.ifCond .ne 7, 3) := by decide +kernel
theorem dX6_clear_44 : decode cX6_clear 44 = .ok (.iconst 1, 1) := by decide +kernel
theorem dX6_clear_45 : decode cX6_clear 45 = .ok (.goto 4, 3) := by decide +kernel
theorem dX6_clear_48 : decode cX6_clear 48 = .ok (.iconst 0, 1) := by decide +kernel
theorem dX6_clear_49 : decode cX6_clear 49 = .ok (.aload_n 0, 1) := by decide +kernel
theorem dX6_clear_50 : decode cX6_clear 50 = .ok (.getfield 25, 3) := by decide +kernel
theorem dX6_clear_53 : decode cX6_clear 53 = .ok (.invokevirtual 99, 3) := by decide +kernel
theorem dX6_clear_56 : decode cX6_clear 56 = .ok (.aload_n 0, 1) := by decide +kernel
theorem dX6_clear_57 : decode cX6_clear 57 = .ok (.getfield 18, 3) := by decide +kernel
theorem dX6_clear_60 : decode cX6_clear 60 = .ok (.getfield 50, 3) := by decide +kernel
theorem dX6_clear_63 : decode cX6_clear 63 = .ok (.aload_n 0, 1) := by decide +kernel
theorem dX6_clear_64 : decode cX6_clear 64 = .ok (.getfield 86, 3) := by decide +kernel
theorem dX6_clear_67 : decode cX6_clear 67 = .ok (.imul, 1) := by decide +kernel
theorem dX6_clear_68 : decode cX6_clear 68 = .ok (.istore_n 2, 1) := by decide +kernel
theorem dX6_clear_69 : decode cX6_clear 69 = .ok (.aload_n 0, 1) := by decide +kernel
theorem dX6_clear_70 : decode cX6_clear 70 = .ok (.getfield 31, 3) := by decide +kernel
theorem dX6_clear_73 : decode cX6_clear 73 = .ok (.arraylength, 1) := by decide +kernel
theorem dX6_clear_74 : decode cX6_clear 74 = .ok (.iload_n 2, 1) := by decide +kernel
theorem dX6_clear_75 : decode cX6_clear 75 = .ok (.if_icmp .ge 10, 3) := by decide +kernel
theorem dX6_clear_78 : decode cX6_clear 78 = .ok (.aload_n 0, 1) := by decide +kernel
theorem dX6_clear_79 : decode cX6_clear 79 = .ok (.iload_n 2, 1) := by decide +kernel
theorem dX6_clear_80 : decode cX6_clear 80 = .ok (.newarray .int, 2) := by decide +kernel
theorem dX6_clear_82 : decode cX6_clear 82 = .ok (.putfield 31, 3) := by decide +kernel
theorem dX6_clear_85 : decode cX6_clear 85 = .ok (.aload_n 0, 1) := by decide +kernel
theorem dX6_clear_86 : decode cX6_clear 86 = .ok (.getfield 31, 3) := by decide +kernel
theorem dX6_clear_89 : decode cX6_clear 89 = .ok (.iconst 0, 1) := by decide +kernel
theorem dX6_clear_90 : decode cX6_clear 90 = .ok (.invokestatic 105, 3) := by decide +kernel
theorem dX6_clear_93 : decode cX6_clear 93 = .ok (.aload_n 0, 1) := by decide +kernel
theorem dX6_clear_94 : decode cX6_clear 94 = .ok (.getfield 34, 3) := by decide +kernel
theorem dX6_clear_97 : decode cX6_clear 97 = .ok (.arraylength, 1) := by decide +kernel
theorem dX6_clear_98 : decode cX6_clear 98 = .ok (.aload_n 0, 1) := by decide +kernel
theorem dX6_clear_99 : decode cX6_clear 99 = .ok (.getfield 18, 3) := by decide +kernel
theorem dX6_clear_102 : decode cX6_clear 102 = .ok (.getfield 111, 3) := by decide +kernel
theorem dX6_clear_105 : decode cX6_clear 105 = .ok (.if_icmp .ge 16, 3) := by decide +kernel
theorem dX6_clear_108 : decode cX6_clear 108 = .ok (.aload_n 0, 1) := by decide +kernel
theorem dX6_clear_109 : decode cX6_clear 109 = .ok (.aload_n 0, 1) := by decide +kernel
theorem dX6_clear_110 : decode cX6_clear 110 = .ok (.getfield 18, 3) := by decide +kernel
theorem dX6_clear_113 : decode cX6_clear 113 = .ok (.getfield 111, 3) := by decide +kernel
theorem dX6_clear_116 : decode cX6_clear 116 = .ok (.newarray .int, 2) := by decide +kernel
theorem dX6_clear_118 : decode cX6_clear 118 = .ok (.putfield 34, 3) := by decide +kernel
theorem dX6_clear_121 : decode cX6_clear 121 = .ok (.aload_n 0, 1) := by decide +kernel
theorem dX6_clear_122 : decode cX6_clear 122 = .ok (.getfield 34, 3) := by decide +kernel
theorem dX6_clear_125 : decode cX6_clear 125 = .ok (.iconst 0, 1) := by decide +kernel
theorem dX6_clear_126 : decode cX6_clear 126 = .ok (.invokestatic 105, 3) := by decide +kernel
theorem dX6_clear_129 : decode cX6_clear 129 = .ok (.aload_n 0, 1) := by decide +kernel
theorem dX6_clear_130 : decode cX6_clear 130 = .ok (.getfield 9, 3) := by decide +kernel
theorem dX6_clear_133 : decode cX6_clear 133 = .ok (.iconst (-1), 1) := by decide +kernel
theorem dX6_clear_134 : decode cX6_clear 134 = .ok (.invokestatic 105, 3) := by decide +kernel
theorem dX6_clear_137 : decode cX6_clear 137 = .ok (.aload_n 0, 1) := by decide +kernel
theorem dX6_clear_138 : decode cX6_clear 138 = .ok (.iconst 0, 1) := by decide +kernel
theorem dX6_clear_139 : decode cX6_clear 139 = .ok (.putfield 114, 3) := by decide +kernel
theorem dX6_clear_142 : decode cX6_clear 142 = .ok (.iconst 0, 1) := by decide +kernel
theorem dX6_clear_143 : decode cX6_clear 143 = .ok (.istore_n 3, 1) := by decide +kernel
theorem dX6_clear_144 : decode cX6_clear 144 = .ok (.iload_n 3, 1) := by decide +kernel
theorem dX6_clear_145 : decode cX6_clear 145 = .ok (.aload_n 0, 1) := by decide +kernel
theorem dX6_clear_146 : decode cX6_clear 146 = .ok (.getfield 18, 3) := by decide +kernel
theorem dX6_clear_149 : decode cX6_clear 149 = .ok (.getfield 50, 3) := by decide +kernel
theorem dX6_clear_152 : decode cX6_clear 152 = .ok (.if_icmp .ge 24, 3) := by decide +kernel
theorem dX6_clear_155 : decode cX6_clear 155 = .ok (.aload_n 0, 1) := by decide +kernel
theorem dX6_clear_156 : decode cX6_clear 156 = .ok (.getfield 18, 3) := by decide +kernel
theorem dX6_clear_159 : decode cX6_clear 159 = .ok (.getfield 117, 3) := by decide +kernel
theorem dX6_clear_162 : decode cX6_clear 162 = .ok (.ifCond .eq 14, 3) := by decide +kernel
theorem dX6_clear_165 : decode cX6_clear 165 = .ok (.aload_n 0, 1) := by decide +kernel
theorem dX6_clear_166 : decode cX6_clear 166 = .ok (.iload_n 3, 1) := by decide +kernel
theorem dX6_clear_167 : decode cX6_clear 167 = .ok (.invokevirtual 120, 3) := by decide +kernel
theorem dX6_clear_170 : decode cX6_clear 170 = .ok (.iinc 3 1, 3) := by decide +kernel
theorem dX6_clear_173 : decode cX6_clear 173 = .ok (.goto (-29), 3) := by decide +kernel
theorem dX6_clear_176 : decode cX6_clear 176 = .ok (.return_, 1) := by decide +kernel
set_option maxHeartbeats 4000000 in
set_option maxRecDepth 100000 in
theorem sX0_init {l : Launch} {D : va_G} {cA : Nat → ClassId} {base : Nat} {sA : Nat → Nat} {r0 : Nat} {h hE : Zh} (hf : fX0_init r0 h = some hE) : zCA l yX0_init cX0_init 1 none 1 20 D cA base sA [.ref (base + r0)] h none hE := by
  refine a_entry RX0 (by decide) rfl (Nat.le_of_ble_eq_true rfl) ?_
  intro p e R s m args below meth c hRf hRl r hin X hr
  unfold fX0_init at hf
  have hf := zlet_n (x := h) rfl hf
  show zGA p l e R s m args below meth c (MQ below (zQA D cA base h hE none) args s (zNC - zN h) (zNS - zS h) (zA base)) 1 D cA base h 0 [(0, .ref (base + r0))] [] h
  refine a_aload_n X 0 dX0_init_0 rfl ?_
  refine a_objInit X r w_ol_RX0_3 w_ob2 w_ob3 (by rw [hRf]; decide) (by rw [hRl]; exact Nat.le_of_ble_eq_true rfl) dX0_init_1 ?_
  refine a_aload_n X 0 dX0_init_4 rfl ?_
  refine a_iconst X (v := 1) dX0_init_5 (by decide) ?_
  obtain ⟨hk1, hf⟩ := zite hf
  refine a_putI X zf0 hk1 11 (by decide) w_f_RX0_9 rfl rfl rfl dX0_init_6 ?_
  refine a_hp (fun h2 eh2 => ?_)
  have hf := zlet_n eh2 hf
  refine a_aload_n X 0 dX0_init_9 rfl ?_
  refine a_iconst X (v := 1) dX0_init_10 (by decide) ?_
  obtain ⟨hk3, hf⟩ := zite hf
  refine a_putI X zf0 hk3 12 (by decide) w_f_RX0_15 rfl rfl rfl dX0_init_11 ?_
  refine a_hp (fun h4 eh4 => ?_)
  have hf := zlet_n eh4 hf
  cases hf
  exact a_vret X hr dX0_init_14

set_option maxHeartbeats 4000000 in
set_option maxRecDepth 100000 in
theorem sX1_init {l : Launch} {D : va_G} {cA : Nat → ClassId} {base : Nat} {sA : Nat → Nat} {r0 : Nat} {h hE : Zh} (hf : fX1_init r0 h = some hE) : zCA l yX1_init cX1_init 1 none 1 20 D cA base sA [.ref (base + r0)] h none hE := by
  refine a_entry RX1 (by decide) rfl (Nat.le_of_ble_eq_true rfl) ?_
  intro p e R s m args below meth c hRf hRl r hin X hr
  unfold fX1_init at hf
  have hf := zlet_n (x := h) rfl hf
  show zGA p l e R s m args below meth c (MQ below (zQA D cA base h hE none) args s (zNC - zN h) (zNS - zS h) (zA base)) 1 D cA base h 0 [(0, .ref (base + r0))] [] h
  refine a_aload_n X 0 dX1_init_0 rfl ?_
  refine a_objInit X r w_ol_RX1_3 w_ob2 w_ob3 (by rw [hRf]; decide) (by rw [hRl]; exact Nat.le_of_ble_eq_true rfl) dX1_init_1 ?_
  refine a_aload_n X 0 dX1_init_4 rfl ?_
  refine a_bipush X (v := 20) dX1_init_5 (by decide) ?_
  obtain ⟨hn3, hf⟩ := zite hf
  obtain ⟨hc1, hf⟩ := zite hf
  refine a_newa0 X r hn3 hc1 w_ac_int dX1_init_7 ?_
  refine a_hp (fun h2 eh2 => ?_)
  have hf := zlet_n eh2 hf
  obtain ⟨hk4, hf⟩ := zite hf
  refine a_putFR X hin rfl zf1 hk4 0 (by decide) w_f_RX1_9 rfl rfl rfl dX1_init_9 ?_
  refine a_hp (fun h5 eh5 => ?_)
  have hf := zlet_n eh5 hf
  refine a_aload_n X 0 dX1_init_12 rfl ?_
  refine a_bipush X (v := 20) dX1_init_13 (by decide) ?_
  obtain ⟨hn8, hf⟩ := zite hf
  obtain ⟨hc6, hf⟩ := zite hf
  refine a_newa0 X r hn8 hc6 w_ac_int dX1_init_15 ?_
  refine a_hp (fun h7 eh7 => ?_)
  have hf := zlet_n eh7 hf
  obtain ⟨hk9, hf⟩ := zite hf
  refine a_putFR X hin rfl zf1 hk9 1 (by decide) w_f_RX1_15 rfl rfl rfl dX1_init_17 ?_
  refine a_hp (fun h10 eh10 => ?_)
  have hf := zlet_n eh10 hf
  cases hf
  exact a_vret X hr dX1_init_20

set_option maxHeartbeats 4000000 in
set_option maxRecDepth 100000 in
theorem sX2_init {l : Launch} {D : va_G} {cA : Nat → ClassId} {base : Nat} {sA : Nat → Nat} {r0 : Nat} {x1 : Int32} {h hE : Zh} (hf : fX2_init r0 x1 h = some hE) : zCA l yX2_init cX2_init 2 none 1 20 D cA base sA [.ref (base + r0), .int x1] h none hE := by
  refine a_entry RX2 (by decide) rfl (Nat.le_of_ble_eq_true rfl) ?_
  intro p e R s m args below meth c hRf hRl r hin X hr
  unfold fX2_init at hf
  have hf := zlet_n (x := h) rfl hf
  show zGA p l e R s m args below meth c (MQ below (zQA D cA base h hE none) args s (zNC - zN h) (zNS - zS h) (zA base)) 2 D cA base h 0 [(0, .ref (base + r0)), (1, .int x1)] [] h
  refine a_aload_n X 0 dX2_init_0 rfl ?_
  refine a_objInit X r w_ol_RX2_3 w_ob2 w_ob3 (by rw [hRf]; decide) (by rw [hRl]; exact Nat.le_of_ble_eq_true rfl) dX2_init_1 ?_
  refine a_aload_n X 0 dX2_init_4 rfl ?_
  refine a_sipush X (v := 2000) dX2_init_5 (by decide) ?_
  obtain ⟨hn3, hf⟩ := zite hf
  obtain ⟨hc1, hf⟩ := zite hf
  refine a_newa0 X r hn3 hc1 w_ac_int dX2_init_8 ?_
  refine a_hp (fun h2 eh2 => ?_)
  have hf := zlet_n eh2 hf
  obtain ⟨hk4, hf⟩ := zite hf
  refine a_putFR X hin rfl zf2 hk4 1 (by decide) w_f_RX2_9 rfl rfl rfl dX2_init_10 ?_
  refine a_hp (fun h5 eh5 => ?_)
  have hf := zlet_n eh5 hf
  refine a_aload_n X 0 dX2_init_13 rfl ?_
  refine a_iload_n X 1 dX2_init_14 rfl ?_
  obtain ⟨hk6, hf⟩ := zite hf
  refine a_putFI X hin rfl zf2 hk6 0 (by decide) w_f_RX2_15 rfl rfl rfl dX2_init_15 ?_
  refine a_hp (fun h7 eh7 => ?_)
  have hf := zlet_n eh7 hf
  cases hf
  exact a_vret X hr dX2_init_18

set_option maxHeartbeats 4000000 in
set_option maxRecDepth 100000 in
theorem sX3_init {l : Launch} {D : va_G} {cA : Nat → ClassId} {base : Nat} {sA : Nat → Nat} {r0 : Nat} {h hE : Zh} (hf : fX3_init r0 h = some hE) : zCA l yX3_init cX3_init 1 none 1 20 D cA base sA [.ref (base + r0)] h none hE := by
  refine a_entry RX3 (by decide) rfl (Nat.le_of_ble_eq_true rfl) ?_
  intro p e R s m args below meth c hRf hRl r hin X hr
  unfold fX3_init at hf
  have hf := zlet_n (x := h) rfl hf
  show zGA p l e R s m args below meth c (MQ below (zQA D cA base h hE none) args s (zNC - zN h) (zNS - zS h) (zA base)) 1 D cA base h 0 [(0, .ref (base + r0))] [] h
  refine a_aload_n X 0 dX3_init_0 rfl ?_
  refine a_objInit X r w_ol_RX3_3 w_ob2 w_ob3 (by rw [hRf]; decide) (by rw [hRl]; exact Nat.le_of_ble_eq_true rfl) dX3_init_1 ?_
  refine a_aload_n X 0 dX3_init_4 rfl ?_
  refine a_iconst X (v := 5) dX3_init_5 (by decide) ?_
  obtain ⟨hn3, hf⟩ := zite hf
  obtain ⟨hc1, hf⟩ := zite hf
  refine a_newa0 X r hn3 hc1 w_ac_int dX3_init_6 ?_
  refine a_hp (fun h2 eh2 => ?_)
  have hf := zlet_n eh2 hf
  obtain ⟨hk4, hf⟩ := zite hf
  refine a_putFR X hin rfl zf3 hk4 0 (by decide) w_f_RX3_9 rfl rfl rfl dX3_init_8 ?_
  refine a_hp (fun h5 eh5 => ?_)
  have hf := zlet_n eh5 hf
  refine a_aload_n X 0 dX3_init_11 rfl ?_
  refine a_iconst X (v := 5) dX3_init_12 (by decide) ?_
  obtain ⟨hn8, hf⟩ := zite hf
  obtain ⟨hc6, hf⟩ := zite hf
  refine a_newa0 X r hn8 hc6 w_ac_int dX3_init_13 ?_
  refine a_hp (fun h7 eh7 => ?_)
  have hf := zlet_n eh7 hf
  obtain ⟨hk9, hf⟩ := zite hf
  refine a_putFR X hin rfl zf3 hk9 1 (by decide) w_f_RX3_15 rfl rfl rfl dX3_init_15 ?_
  refine a_hp (fun h10 eh10 => ?_)
  have hf := zlet_n eh10 hf
  cases hf
  exact a_vret X hr dX3_init_18

set_option maxHeartbeats 4000000 in
set_option maxRecDepth 100000 in
theorem sX9_init {l : Launch} {D : va_G} {cA : Nat → ClassId} {base : Nat} {sA : Nat → Nat} {r0 : Nat} {h hE : Zh} (hf : fX9_init r0 h = some hE) : zCA l yX9_init cX9_init 1 none 2 40 D cA base sA [.ref (base + r0)] h none hE := by
  refine a_entry RX9 (by decide) rfl (Nat.le_of_ble_eq_true rfl) ?_
  intro p e R s m args below meth c hRf hRl r hin X hr
  unfold fX9_init at hf
  have hf := zlet_n (x := h) rfl hf
  show zGA p l e R s m args below meth c (MQ below (zQA D cA base h hE none) args s (zNC - zN h) (zNS - zS h) (zA base)) 1 D cA base h 0 [(0, .ref (base + r0))] [] h
  refine a_aload_n X 0 dX9_init_0 rfl ?_
  refine a_objInit X r w_ol_RX9_3 w_ob2 w_ob3 (by rw [hRf]; decide) (by rw [hRl]; exact Nat.le_of_ble_eq_true rfl) dX9_init_1 ?_
  refine a_aload_n X 0 dX9_init_4 rfl ?_
  obtain ⟨hc1, hf⟩ := zite hf
  refine a_new X r zf0 zq0 hc1 w_cl_RX9_9 w_in_RX0 w_ini_RX0 dX9_init_5 ?_
  refine a_hp (fun h2 eh2 => ?_)
  have hf := zlet_n eh2 hf
  refine a_dup X dX9_init_8 rfl ?_
  obtain ⟨h3, hch3, hf⟩ := zbd hf
  refine a_callIN X r 0 (sX0_init hch3) rfl yiX0_init w_mn_RX9_11 w_instanceMethod_X0_init w_ini_RX0 w_code_X0_init (by rw [hRf, hRl]; decide) rfl (st := [.ref (base + (zN h)), .ref (base + r0)]) rfl (Nat.le_of_ble_eq_true rfl) dX9_init_9 ?_
  obtain ⟨hk4, hf⟩ := zite hf
  refine a_putFR X hin rfl zf9 hk4 1 (by decide) w_f_RX9_12 rfl rfl rfl dX9_init_12 ?_
  refine a_hp (fun h5 eh5 => ?_)
  have hf := zlet_n eh5 hf
  refine a_aload_n X 0 dX9_init_15 rfl ?_
  refine a_iconst X (v := 4) dX9_init_16 (by decide) ?_
  obtain ⟨hn8, hf⟩ := zite hf
  obtain ⟨hc6, hf⟩ := zite hf
  refine a_newa0 X r hn8 hc6 w_ac_int dX9_init_17 ?_
  refine a_hp (fun h7 eh7 => ?_)
  have hf := zlet_n eh7 hf
  obtain ⟨hk9, hf⟩ := zite hf
  refine a_putFR X hin rfl zf9 hk9 2 (by decide) w_f_RX9_18 rfl rfl rfl dX9_init_19 ?_
  refine a_hp (fun h10 eh10 => ?_)
  have hf := zlet_n eh10 hf
  refine a_aload_n X 0 dX9_init_22 rfl ?_
  obtain ⟨hc11, hf⟩ := zite hf
  refine a_new X r zf1 zq1 hc11 w_cl_RX9_22 w_in_RX1 w_ini_RX1 dX9_init_23 ?_
  refine a_hp (fun h12 eh12 => ?_)
  have hf := zlet_n eh12 hf
  refine a_dup X dX9_init_26 rfl ?_
  obtain ⟨h13, hch13, hf⟩ := zbd hf
  refine a_callIN X r 0 (sX1_init hch13) rfl yiX1_init w_mn_RX9_24 w_instanceMethod_X1_init w_ini_RX1 w_code_X1_init (by rw [hRf, hRl]; decide) rfl (st := [.ref (base + (zN h10)), .ref (base + r0)]) rfl (Nat.le_of_ble_eq_true rfl) dX9_init_27 ?_
  obtain ⟨hk14, hf⟩ := zite hf
  refine a_putFR X hin rfl zf9 hk14 4 (by decide) w_f_RX9_25 rfl rfl rfl dX9_init_30 ?_
  refine a_hp (fun h15 eh15 => ?_)
  have hf := zlet_n eh15 hf
  cases hf
  exact a_vret X hr dX9_init_33

set_option maxHeartbeats 4000000 in
set_option maxRecDepth 100000 in
theorem sX5_init {l : Launch} {D : va_G} {cA : Nat → ClassId} {base : Nat} {sA : Nat → Nat} {r0 : Nat} {h hE : Zh} (hf : fX5_init r0 h = some hE) : zCA l yX5_init cX5_init 1 none 1 20 D cA base sA [.ref (base + r0)] h none hE := by
  refine a_entry RX5 (by decide) rfl (Nat.le_of_ble_eq_true rfl) ?_
  intro p e R s m args below meth c hRf hRl r hin X hr
  unfold fX5_init at hf
  have hf := zlet_n (x := h) rfl hf
  show zGA p l e R s m args below meth c (MQ below (zQA D cA base h hE none) args s (zNC - zN h) (zNS - zS h) (zA base)) 1 D cA base h 0 [(0, .ref (base + r0))] [] h
  refine a_aload_n X 0 dX5_init_0 rfl ?_
  refine a_objInit X r w_ol_RX5_3 w_ob2 w_ob3 (by rw [hRf]; decide) (by rw [hRl]; exact Nat.le_of_ble_eq_true rfl) dX5_init_1 ?_
  refine a_aload_n X 0 dX5_init_4 rfl ?_
  refine a_iconst X (v := 5) dX5_init_5 (by decide) ?_
  obtain ⟨hn3, hf⟩ := zite hf
  obtain ⟨hc1, hf⟩ := zite hf
  refine a_newa0 X r hn3 hc1 w_ac_int dX5_init_6 ?_
  refine a_hp (fun h2 eh2 => ?_)
  have hf := zlet_n eh2 hf
  obtain ⟨hk4, hf⟩ := zite hf
  refine a_putFR X hin rfl zf5 hk4 0 (by decide) w_f_RX5_9 rfl rfl rfl dX5_init_8 ?_
  refine a_hp (fun h5 eh5 => ?_)
  have hf := zlet_n eh5 hf
  cases hf
  exact a_vret X hr dX5_init_11

set_option maxHeartbeats 4000000 in
set_option maxRecDepth 100000 in
theorem sX8_init {l : Launch} {D : va_G} {cA : Nat → ClassId} {base : Nat} {sA : Nat → Nat} {r0 : Nat} {h hE : Zh} (hf : fX8_init r0 h = some hE) : zCA l yX8_init cX8_init 1 none 1 20 D cA base sA [.ref (base + r0)] h none hE := by
  refine a_entry RX8 (by decide) rfl (Nat.le_of_ble_eq_true rfl) ?_
  intro p e R s m args below meth c hRf hRl r hin X hr
  unfold fX8_init at hf
  have hf := zlet_n (x := h) rfl hf
  show zGA p l e R s m args below meth c (MQ below (zQA D cA base h hE none) args s (zNC - zN h) (zNS - zS h) (zA base)) 1 D cA base h 0 [(0, .ref (base + r0))] [] h
  refine a_aload_n X 0 dX8_init_0 rfl ?_
  refine a_objInit X r w_ol_RX8_5 w_ob2 w_ob3 (by rw [hRf]; decide) (by rw [hRl]; exact Nat.le_of_ble_eq_true rfl) dX8_init_1 ?_
  refine a_aload_n X 0 dX8_init_4 rfl ?_
  refine a_sipush X (v := 4096) dX8_init_5 (by decide) ?_
  obtain ⟨hn3, hf⟩ := zite hf
  obtain ⟨hc1, hf⟩ := zite hf
  refine a_newa0 X r hn3 hc1 w_ac_int dX8_init_8 ?_
  refine a_hp (fun h2 eh2 => ?_)
  have hf := zlet_n eh2 hf
  obtain ⟨hk4, hf⟩ := zite hf
  refine a_putFR X hin rfl zf8 hk4 0 (by decide) w_f_RX8_11 rfl rfl rfl dX8_init_10 ?_
  refine a_hp (fun h5 eh5 => ?_)
  have hf := zlet_n eh5 hf
  refine a_aload_n X 0 dX8_init_13 rfl ?_
  refine a_sipush X (v := 4096) dX8_init_14 (by decide) ?_
  obtain ⟨hn8, hf⟩ := zite hf
  obtain ⟨hc6, hf⟩ := zite hf
  refine a_newa0 X r hn8 hc6 w_ac_int dX8_init_17 ?_
  refine a_hp (fun h7 eh7 => ?_)
  have hf := zlet_n eh7 hf
  obtain ⟨hk9, hf⟩ := zite hf
  refine a_putFR X hin rfl zf8 hk9 1 (by decide) w_f_RX8_15 rfl rfl rfl dX8_init_19 ?_
  refine a_hp (fun h10 eh10 => ?_)
  have hf := zlet_n eh10 hf
  refine a_aload_n X 0 dX8_init_22 rfl ?_
  refine a_sipush X (v := 4096) dX8_init_23 (by decide) ?_
  obtain ⟨hn13, hf⟩ := zite hf
  obtain ⟨hc11, hf⟩ := zite hf
  refine a_newa0 X r hn13 hc11 w_ac_int dX8_init_26 ?_
  refine a_hp (fun h12 eh12 => ?_)
  have hf := zlet_n eh12 hf
  obtain ⟨hk14, hf⟩ := zite hf
  refine a_putFR X hin rfl zf8 hk14 2 (by decide) w_f_RX8_18 rfl rfl rfl dX8_init_28 ?_
  refine a_hp (fun h15 eh15 => ?_)
  have hf := zlet_n eh15 hf
  cases hf
  exact a_vret X hr dX8_init_31

set_option maxHeartbeats 4000000 in
set_option maxRecDepth 100000 in
theorem sX6_init {l : Launch} {D : va_G} {cA : Nat → ClassId} {base : Nat} {sA : Nat → Nat} {r0 : Nat} {h hE : Zh} (hf : fX6_init r0 h = some hE) : zCA l yX6_init cX6_init 1 none 2 40 D cA base sA [.ref (base + r0)] h none hE := by
  refine a_entry RX6 (by decide) rfl (Nat.le_of_ble_eq_true rfl) ?_
  intro p e R s m args below meth c hRf hRl r hin X hr
  unfold fX6_init at hf
  have hf := zlet_n (x := h) rfl hf
  show zGA p l e R s m args below meth c (MQ below (zQA D cA base h hE none) args s (zNC - zN h) (zNS - zS h) (zA base)) 1 D cA base h 0 [(0, .ref (base + r0))] [] h
  refine a_aload_n X 0 dX6_init_0 rfl ?_
  refine a_objInit X r w_ol_RX6_3 w_ob2 w_ob3 (by rw [hRf]; decide) (by rw [hRl]; exact Nat.le_of_ble_eq_true rfl) dX6_init_1 ?_
  refine a_aload_n X 0 dX6_init_4 rfl ?_
  refine a_sipush X (v := 300) dX6_init_5 (by decide) ?_
  obtain ⟨hn3, hf⟩ := zite hf
  obtain ⟨hc1, hf⟩ := zite hf
  refine a_newa0 X r hn3 hc1 w_ac_int dX6_init_8 ?_
  refine a_hp (fun h2 eh2 => ?_)
  have hf := zlet_n eh2 hf
  obtain ⟨hk4, hf⟩ := zite hf
  refine a_putFR X hin rfl zf6 hk4 0 (by decide) w_f_RX6_9 rfl rfl rfl dX6_init_10 ?_
  refine a_hp (fun h5 eh5 => ?_)
  have hf := zlet_n eh5 hf
  refine a_aload_n X 0 dX6_init_13 rfl ?_
  obtain ⟨hc6, hf⟩ := zite hf
  refine a_new X r zf0 zq0 hc6 w_cl_RX6_15 w_in_RX0 w_ini_RX0 dX6_init_14 ?_
  refine a_hp (fun h7 eh7 => ?_)
  have hf := zlet_n eh7 hf
  refine a_dup X dX6_init_17 rfl ?_
  obtain ⟨h8, hch8, hf⟩ := zbd hf
  refine a_callIN X r 0 (sX0_init hch8) rfl yiX0_init w_mn_RX6_17 w_instanceMethod_X0_init w_ini_RX0 w_code_X0_init (by rw [hRf, hRl]; decide) rfl (st := [.ref (base + (zN h5)), .ref (base + r0)]) rfl (Nat.le_of_ble_eq_true rfl) dX6_init_18 ?_
  obtain ⟨hk9, hf⟩ := zite hf
  refine a_putR X zf6 hk9 3 (by decide) w_f_RX6_18 rfl rfl rfl dX6_init_21 ?_
  refine a_hp (fun h10 eh10 => ?_)
  have hf := zlet_n eh10 hf
  refine a_aload_n X 0 dX6_init_24 rfl ?_
  refine a_iconst X (v := 0) dX6_init_25 (by decide) ?_
  obtain ⟨hn13, hf⟩ := zite hf
  obtain ⟨hc11, hf⟩ := zite hf
  refine a_newa0 X r hn13 hc11 w_ac_int dX6_init_26 ?_
  refine a_hp (fun h12 eh12 => ?_)
  have hf := zlet_n eh12 hf
  obtain ⟨hk14, hf⟩ := zite hf
  refine a_putR X zf6 hk14 4 (by decide) w_f_RX6_22 rfl rfl rfl dX6_init_28 ?_
  refine a_hp (fun h15 eh15 => ?_)
  have hf := zlet_n eh15 hf
  refine a_aload_n X 0 dX6_init_31 rfl ?_
  refine a_bipush X (v := 120) dX6_init_32 (by decide) ?_
  obtain ⟨hn18, hf⟩ := zite hf
  obtain ⟨hc16, hf⟩ := zite hf
  refine a_newa0 X r hn18 hc16 w_ac_int dX6_init_34 ?_
  refine a_hp (fun h17 eh17 => ?_)
  have hf := zlet_n eh17 hf
  obtain ⟨hk19, hf⟩ := zite hf
  refine a_putFR X hin rfl zf6 hk19 5 (by decide) w_f_RX6_25 rfl rfl rfl dX6_init_36 ?_
  refine a_hp (fun h20 eh20 => ?_)
  have hf := zlet_n eh20 hf
  refine a_aload_n X 0 dX6_init_39 rfl ?_
  refine a_iconst X (v := 5) dX6_init_40 (by decide) ?_
  obtain ⟨hn23, hf⟩ := zite hf
  obtain ⟨hc21, hf⟩ := zite hf
  refine a_newa0 X r hn23 hc21 w_ac_int dX6_init_41 ?_
  refine a_hp (fun h22 eh22 => ?_)
  have hf := zlet_n eh22 hf
  obtain ⟨hk24, hf⟩ := zite hf
  refine a_putFR X hin rfl zf6 hk24 7 (by decide) w_f_RX6_28 rfl rfl rfl dX6_init_43 ?_
  refine a_hp (fun h25 eh25 => ?_)
  have hf := zlet_n eh25 hf
  refine a_aload_n X 0 dX6_init_46 rfl ?_
  refine a_iconst X (v := 0) dX6_init_47 (by decide) ?_
  obtain ⟨hn28, hf⟩ := zite hf
  obtain ⟨hc26, hf⟩ := zite hf
  refine a_newa0 X r hn28 hc26 w_ac_int dX6_init_48 ?_
  refine a_hp (fun h27 eh27 => ?_)
  have hf := zlet_n eh27 hf
  obtain ⟨hk29, hf⟩ := zite hf
  refine a_putR X zf6 hk29 8 (by decide) w_f_RX6_31 rfl rfl rfl dX6_init_50 ?_
  refine a_hp (fun h30 eh30 => ?_)
  have hf := zlet_n eh30 hf
  refine a_aload_n X 0 dX6_init_53 rfl ?_
  refine a_iconst X (v := 0) dX6_init_54 (by decide) ?_
  obtain ⟨hn33, hf⟩ := zite hf
  obtain ⟨hc31, hf⟩ := zite hf
  refine a_newa0 X r hn33 hc31 w_ac_int dX6_init_55 ?_
  refine a_hp (fun h32 eh32 => ?_)
  have hf := zlet_n eh32 hf
  obtain ⟨hk34, hf⟩ := zite hf
  refine a_putR X zf6 hk34 9 (by decide) w_f_RX6_34 rfl rfl rfl dX6_init_57 ?_
  refine a_hp (fun h35 eh35 => ?_)
  have hf := zlet_n eh35 hf
  refine a_aload_n X 0 dX6_init_60 rfl ?_
  refine a_sipush X (v := 300) dX6_init_61 (by decide) ?_
  obtain ⟨hn38, hf⟩ := zite hf
  obtain ⟨hc36, hf⟩ := zite hf
  refine a_newa0 X r hn38 hc36 w_ac_int dX6_init_64 ?_
  refine a_hp (fun h37 eh37 => ?_)
  have hf := zlet_n eh37 hf
  obtain ⟨hk39, hf⟩ := zite hf
  refine a_putFR X hin rfl zf6 hk39 11 (by decide) w_f_RX6_37 rfl rfl rfl dX6_init_66 ?_
  refine a_hp (fun h40 eh40 => ?_)
  have hf := zlet_n eh40 hf
  refine a_aload_n X 0 dX6_init_69 rfl ?_
  refine a_sipush X (v := 300) dX6_init_70 (by decide) ?_
  obtain ⟨hn43, hf⟩ := zite hf
  obtain ⟨hc41, hf⟩ := zite hf
  refine a_newa0 X r hn43 hc41 w_ac_int dX6_init_73 ?_
  refine a_hp (fun h42 eh42 => ?_)
  have hf := zlet_n eh42 hf
  obtain ⟨hk44, hf⟩ := zite hf
  refine a_putFR X hin rfl zf6 hk44 12 (by decide) w_f_RX6_40 rfl rfl rfl dX6_init_75 ?_
  refine a_hp (fun h45 eh45 => ?_)
  have hf := zlet_n eh45 hf
  refine a_aload_n X 0 dX6_init_78 rfl ?_
  refine a_sipush X (v := 300) dX6_init_79 (by decide) ?_
  obtain ⟨hn48, hf⟩ := zite hf
  obtain ⟨hc46, hf⟩ := zite hf
  refine a_newa0 X r hn48 hc46 w_ac_int dX6_init_82 ?_
  refine a_hp (fun h47 eh47 => ?_)
  have hf := zlet_n eh47 hf
  obtain ⟨hk49, hf⟩ := zite hf
  refine a_putFR X hin rfl zf6 hk49 13 (by decide) w_f_RX6_43 rfl rfl rfl dX6_init_84 ?_
  refine a_hp (fun h50 eh50 => ?_)
  have hf := zlet_n eh50 hf
  cases hf
  exact a_vret X hr dX6_init_87

set_option maxHeartbeats 4000000 in
set_option maxRecDepth 100000 in
theorem sX4_init {l : Launch} {D : va_G} {cA : Nat → ClassId} {base : Nat} {sA : Nat → Nat} {r0 : Nat} {h hE : Zh} (hf : fX4_init r0 h = some hE) : zCA l yX4_init cX4_init 1 none 3 60 D cA base sA [.ref (base + r0)] h none hE := by
  refine a_entry RX4 (by decide) rfl (Nat.le_of_ble_eq_true rfl) ?_
  intro p e R s m args below meth c hRf hRl r hin X hr
  unfold fX4_init at hf
  have hf := zlet_n (x := h) rfl hf
  show zGA p l e R s m args below meth c (MQ below (zQA D cA base h hE none) args s (zNC - zN h) (zNS - zS h) (zA base)) 1 D cA base h 0 [(0, .ref (base + r0))] [] h
  refine a_aload_n X 0 dX4_init_0 rfl ?_
  refine a_objInit X r w_ol_RX4_3 w_ob2 w_ob3 (by rw [hRf]; decide) (by rw [hRl]; exact Nat.le_of_ble_eq_true rfl) dX4_init_1 ?_
  refine a_aload_n X 0 dX4_init_4 rfl ?_
  refine a_sipush X (v := 2000) dX4_init_5 (by decide) ?_
  obtain ⟨hn3, hf⟩ := zite hf
  obtain ⟨hc1, hf⟩ := zite hf
  refine a_newa0 X r hn3 hc1 w_ac_int dX4_init_8 ?_
  refine a_hp (fun h2 eh2 => ?_)
  have hf := zlet_n eh2 hf
  obtain ⟨hk4, hf⟩ := zite hf
  refine a_putFR X hin rfl zf4 hk4 0 (by decide) w_f_RX4_9 rfl rfl rfl dX4_init_10 ?_
  refine a_hp (fun h5 eh5 => ?_)
  have hf := zlet_n eh5 hf
  refine a_aload_n X 0 dX4_init_13 rfl ?_
  obtain ⟨hc6, hf⟩ := zite hf
  refine a_new X r zf9 zq9 hc6 w_cl_RX4_15 w_in_RX9 w_ini_RX9 dX4_init_14 ?_
  refine a_hp (fun h7 eh7 => ?_)
  have hf := zlet_n eh7 hf
  refine a_dup X dX4_init_17 rfl ?_
  obtain ⟨h8, hch8, hf⟩ := zbd hf
  refine a_callIN X r 0 (sX9_init hch8) rfl yiX9_init w_mn_RX4_17 w_instanceMethod_X9_init w_ini_RX9 w_code_X9_init (by rw [hRf, hRl]; decide) rfl (st := [.ref (base + (zN h5)), .ref (base + r0)]) rfl (Nat.le_of_ble_eq_true rfl) dX4_init_18 ?_
  obtain ⟨hk9, hf⟩ := zite hf
  refine a_putR X zf4 hk9 1 (by decide) w_f_RX4_18 rfl rfl rfl dX4_init_21 ?_
  refine a_hp (fun h10 eh10 => ?_)
  have hf := zlet_n eh10 hf
  refine a_aload_n X 0 dX4_init_24 rfl ?_
  obtain ⟨hc11, hf⟩ := zite hf
  refine a_new X r zf5 zq5 hc11 w_cl_RX4_22 w_in_RX5 w_ini_RX5 dX4_init_25 ?_
  refine a_hp (fun h12 eh12 => ?_)
  have hf := zlet_n eh12 hf
  refine a_dup X dX4_init_28 rfl ?_
  obtain ⟨h13, hch13, hf⟩ := zbd hf
  refine a_callIN X r 0 (sX5_init hch13) rfl yiX5_init w_mn_RX4_24 w_instanceMethod_X5_init w_ini_RX5 w_code_X5_init (by rw [hRf, hRl]; decide) rfl (st := [.ref (base + (zN h10)), .ref (base + r0)]) rfl (Nat.le_of_ble_eq_true rfl) dX4_init_29 ?_
  obtain ⟨hk14, hf⟩ := zite hf
  refine a_putFR X hin rfl zf4 hk14 2 (by decide) w_f_RX4_25 rfl rfl rfl dX4_init_32 ?_
  refine a_hp (fun h15 eh15 => ?_)
  have hf := zlet_n eh15 hf
  refine a_aload_n X 0 dX4_init_35 rfl ?_
  obtain ⟨hc16, hf⟩ := zite hf
  refine a_new X r zf3 zq3 hc16 w_cl_RX4_29 w_in_RX3 w_ini_RX3 dX4_init_36 ?_
  refine a_hp (fun h17 eh17 => ?_)
  have hf := zlet_n eh17 hf
  refine a_dup X dX4_init_39 rfl ?_
  obtain ⟨h18, hch18, hf⟩ := zbd hf
  refine a_callIN X r 0 (sX3_init hch18) rfl yiX3_init w_mn_RX4_31 w_instanceMethod_X3_init w_ini_RX3 w_code_X3_init (by rw [hRf, hRl]; decide) rfl (st := [.ref (base + (zN h15)), .ref (base + r0)]) rfl (Nat.le_of_ble_eq_true rfl) dX4_init_40 ?_
  obtain ⟨hk19, hf⟩ := zite hf
  refine a_putFR X hin rfl zf4 hk19 3 (by decide) w_f_RX4_32 rfl rfl rfl dX4_init_43 ?_
  refine a_hp (fun h20 eh20 => ?_)
  have hf := zlet_n eh20 hf
  refine a_aload_n X 0 dX4_init_46 rfl ?_
  obtain ⟨hc21, hf⟩ := zite hf
  refine a_new X r zf8 zq8 hc21 w_cl_RX4_36 w_in_RX8 w_ini_RX8 dX4_init_47 ?_
  refine a_hp (fun h22 eh22 => ?_)
  have hf := zlet_n eh22 hf
  refine a_dup X dX4_init_50 rfl ?_
  obtain ⟨h23, hch23, hf⟩ := zbd hf
  refine a_callIN X r 0 (sX8_init hch23) rfl yiX8_init w_mn_RX4_38 w_instanceMethod_X8_init w_ini_RX8 w_code_X8_init (by rw [hRf, hRl]; decide) rfl (st := [.ref (base + (zN h20)), .ref (base + r0)]) rfl (Nat.le_of_ble_eq_true rfl) dX4_init_51 ?_
  obtain ⟨hk24, hf⟩ := zite hf
  refine a_putFR X hin rfl zf4 hk24 4 (by decide) w_f_RX4_39 rfl rfl rfl dX4_init_54 ?_
  refine a_hp (fun h25 eh25 => ?_)
  have hf := zlet_n eh25 hf
  refine a_aload_n X 0 dX4_init_57 rfl ?_
  obtain ⟨hc26, hf⟩ := zite hf
  refine a_new X r zf6 zq6 hc26 w_cl_RX4_43 w_in_RX6 w_ini_RX6 dX4_init_58 ?_
  refine a_hp (fun h27 eh27 => ?_)
  have hf := zlet_n eh27 hf
  refine a_dup X dX4_init_61 rfl ?_
  obtain ⟨h28, hch28, hf⟩ := zbd hf
  refine a_callIN X r 0 (sX6_init hch28) rfl yiX6_init w_mn_RX4_45 w_instanceMethod_X6_init w_ini_RX6 w_code_X6_init (by rw [hRf, hRl]; decide) rfl (st := [.ref (base + (zN h25)), .ref (base + r0)]) rfl (Nat.le_of_ble_eq_true rfl) dX4_init_62 ?_
  obtain ⟨hk29, hf⟩ := zite hf
  refine a_putFR X hin rfl zf4 hk29 5 (by decide) w_f_RX4_46 rfl rfl rfl dX4_init_65 ?_
  refine a_hp (fun h30 eh30 => ?_)
  have hf := zlet_n eh30 hf
  refine a_aload_n X 0 dX4_init_68 rfl ?_
  refine a_iconst X (v := 4) dX4_init_69 (by decide) ?_
  obtain ⟨hn33, hf⟩ := zite hf
  obtain ⟨hc31, hf⟩ := zite hf
  refine a_anew4 X r hn33 hc31 w_cl_RX4_50 dX4_init_70 ?_
  refine a_hp (fun h32 eh32 => ?_)
  have hf := zlet_n eh32 hf
  refine a_dup X dX4_init_73 rfl ?_
  refine a_iconst X (v := 0) dX4_init_74 (by decide) ?_
  obtain ⟨hc34, hf⟩ := zite hf
  refine a_new X r zf2 zq2 hc34 w_cl_RX4_50 w_in_RX2 w_ini_RX2 dX4_init_75 ?_
  refine a_hp (fun h35 eh35 => ?_)
  have hf := zlet_n eh35 hf
  refine a_dup X dX4_init_78 rfl ?_
  refine a_iconst X (v := 0) dX4_init_79 (by decide) ?_
  obtain ⟨h36, hch36, hf⟩ := zbd hf
  refine a_callI X r 1 (sX2_init hch36) rfl yiX2_init w_ml_RX4_52 w_instanceMethod_X2_init w_ini_RX2 w_code_X2_init (by rw [hRf, hRl]; decide) rfl (st := [.ref (base + (zN h32)), .int ((0 : Int32)), .ref (base + (zN h30)), .ref (base + (zN h30)), .ref (base + r0)]) rfl (Nat.le_of_ble_eq_true rfl) dX4_init_80 ?_
  obtain ⟨hk37, hf⟩ := zite hf
  obtain ⟨hk38, hf⟩ := zite hf
  obtain ⟨hi39, hf⟩ := zite hf
  refine a_aast4 X hk37 hi39 hk38 dX4_init_83 ?_
  refine a_hp (fun h40 eh40 => ?_)
  have hf := zlet_n eh40 hf
  refine a_dup X dX4_init_84 rfl ?_
  refine a_iconst X (v := 1) dX4_init_85 (by decide) ?_
  obtain ⟨hc41, hf⟩ := zite hf
  refine a_new X r zf2 zq2 hc41 w_cl_RX4_50 w_in_RX2 w_ini_RX2 dX4_init_86 ?_
  refine a_hp (fun h42 eh42 => ?_)
  have hf := zlet_n eh42 hf
  refine a_dup X dX4_init_89 rfl ?_
  refine a_iconst X (v := 1) dX4_init_90 (by decide) ?_
  obtain ⟨h43, hch43, hf⟩ := zbd hf
  refine a_callI X r 1 (sX2_init hch43) rfl yiX2_init w_ml_RX4_52 w_instanceMethod_X2_init w_ini_RX2 w_code_X2_init (by rw [hRf, hRl]; decide) rfl (st := [.ref (base + (zN h40)), .int ((1 : Int32)), .ref (base + (zN h30)), .ref (base + (zN h30)), .ref (base + r0)]) rfl (Nat.le_of_ble_eq_true rfl) dX4_init_91 ?_
  obtain ⟨hk44, hf⟩ := zite hf
  obtain ⟨hk45, hf⟩ := zite hf
  obtain ⟨hi46, hf⟩ := zite hf
  refine a_aast4 X hk44 hi46 hk45 dX4_init_94 ?_
  refine a_hp (fun h47 eh47 => ?_)
  have hf := zlet_n eh47 hf
  refine a_dup X dX4_init_95 rfl ?_
  refine a_iconst X (v := 2) dX4_init_96 (by decide) ?_
  obtain ⟨hc48, hf⟩ := zite hf
  refine a_new X r zf2 zq2 hc48 w_cl_RX4_50 w_in_RX2 w_ini_RX2 dX4_init_97 ?_
  refine a_hp (fun h49 eh49 => ?_)
  have hf := zlet_n eh49 hf
  refine a_dup X dX4_init_100 rfl ?_
  refine a_iconst X (v := 2) dX4_init_101 (by decide) ?_
  obtain ⟨h50, hch50, hf⟩ := zbd hf
  refine a_callI X r 1 (sX2_init hch50) rfl yiX2_init w_ml_RX4_52 w_instanceMethod_X2_init w_ini_RX2 w_code_X2_init (by rw [hRf, hRl]; decide) rfl (st := [.ref (base + (zN h47)), .int ((2 : Int32)), .ref (base + (zN h30)), .ref (base + (zN h30)), .ref (base + r0)]) rfl (Nat.le_of_ble_eq_true rfl) dX4_init_102 ?_
  obtain ⟨hk51, hf⟩ := zite hf
  obtain ⟨hk52, hf⟩ := zite hf
  obtain ⟨hi53, hf⟩ := zite hf
  refine a_aast4 X hk51 hi53 hk52 dX4_init_105 ?_
  refine a_hp (fun h54 eh54 => ?_)
  have hf := zlet_n eh54 hf
  refine a_dup X dX4_init_106 rfl ?_
  refine a_iconst X (v := 3) dX4_init_107 (by decide) ?_
  obtain ⟨hc55, hf⟩ := zite hf
  refine a_new X r zf2 zq2 hc55 w_cl_RX4_50 w_in_RX2 w_ini_RX2 dX4_init_108 ?_
  refine a_hp (fun h56 eh56 => ?_)
  have hf := zlet_n eh56 hf
  refine a_dup X dX4_init_111 rfl ?_
  refine a_iconst X (v := 3) dX4_init_112 (by decide) ?_
  obtain ⟨h57, hch57, hf⟩ := zbd hf
  refine a_callI X r 1 (sX2_init hch57) rfl yiX2_init w_ml_RX4_52 w_instanceMethod_X2_init w_ini_RX2 w_code_X2_init (by rw [hRf, hRl]; decide) rfl (st := [.ref (base + (zN h54)), .int ((3 : Int32)), .ref (base + (zN h30)), .ref (base + (zN h30)), .ref (base + r0)]) rfl (Nat.le_of_ble_eq_true rfl) dX4_init_113 ?_
  obtain ⟨hk58, hf⟩ := zite hf
  obtain ⟨hk59, hf⟩ := zite hf
  obtain ⟨hi60, hf⟩ := zite hf
  refine a_aast4 X hk58 hi60 hk59 dX4_init_116 ?_
  refine a_hp (fun h61 eh61 => ?_)
  have hf := zlet_n eh61 hf
  obtain ⟨hk62, hf⟩ := zite hf
  refine a_putFR X hin rfl zf4 hk62 6 (by decide) w_f_RX4_55 rfl rfl rfl dX4_init_117 ?_
  refine a_hp (fun h63 eh63 => ?_)
  have hf := zlet_n eh63 hf
  refine a_aload_n X 0 dX4_init_120 rfl ?_
  refine a_bipush X (v := 16) dX4_init_121 (by decide) ?_
  obtain ⟨hn66, hf⟩ := zite hf
  obtain ⟨hc64, hf⟩ := zite hf
  refine a_newa0 X r hn66 hc64 w_ac_int dX4_init_123 ?_
  refine a_hp (fun h65 eh65 => ?_)
  have hf := zlet_n eh65 hf
  obtain ⟨hk67, hf⟩ := zite hf
  refine a_putFR X hin rfl zf4 hk67 7 (by decide) w_f_RX4_59 rfl rfl rfl dX4_init_125 ?_
  refine a_hp (fun h68 eh68 => ?_)
  have hf := zlet_n eh68 hf
  refine a_aload_n X 0 dX4_init_128 rfl ?_
  refine a_bipush X (v := 20) dX4_init_129 (by decide) ?_
  obtain ⟨hn71, hf⟩ := zite hf
  obtain ⟨hc69, hf⟩ := zite hf
  refine a_newa0 X r hn71 hc69 w_ac_int dX4_init_131 ?_
  refine a_hp (fun h70 eh70 => ?_)
  have hf := zlet_n eh70 hf
  obtain ⟨hk72, hf⟩ := zite hf
  refine a_putFR X hin rfl zf4 hk72 8 (by decide) w_f_RX4_62 rfl rfl rfl dX4_init_133 ?_
  refine a_hp (fun h73 eh73 => ?_)
  have hf := zlet_n eh73 hf
  refine a_aload_n X 0 dX4_init_136 rfl ?_
  refine a_iconst X (v := 5) dX4_init_137 (by decide) ?_
  obtain ⟨hn76, hf⟩ := zite hf
  obtain ⟨hc74, hf⟩ := zite hf
  refine a_newa0 X r hn76 hc74 w_ac_int dX4_init_138 ?_
  refine a_hp (fun h75 eh75 => ?_)
  have hf := zlet_n eh75 hf
  obtain ⟨hk77, hf⟩ := zite hf
  refine a_putFR X hin rfl zf4 hk77 10 (by decide) w_f_RX4_65 rfl rfl rfl dX4_init_140 ?_
  refine a_hp (fun h78 eh78 => ?_)
  have hf := zlet_n eh78 hf
  cases hf
  exact a_vret X hr dX4_init_143

set_option maxHeartbeats 4000000 in
set_option maxRecDepth 100000 in
theorem sX6_clear {l : Launch} {D : va_G} {cA : Nat → ClassId} {base : Nat} {sA : Nat → Nat} {r0 : Nat} {r1 : Nat} {h hE : Zh} (hf : fX6_clear r0 r1 h = some hE) : zCA l yX6_clear cX6_clear 4 none 4 95 D cA base sA [.ref (base + r0), .ref (base + r1)] h none hE := by
  refine a_entry RX6 (by decide) rfl (Nat.le_of_ble_eq_true rfl) ?_
  intro p e R s m args below meth c hRf hRl r hin X hr
  unfold fX6_clear at hf
  have hf := zlet_n (x := h) rfl hf
  show zGA p l e R s m args below meth c (MQ below (zQA D cA base h hE none) args s (zNC - zN h) (zNS - zS h) (zA base)) 4 D cA base h 0 [(0, .ref (base + r0)), (1, .ref (base + r1))] [] h
  refine a_aload_n X 0 dX6_clear_0 rfl ?_
  refine a_aload_n X 0 dX6_clear_1 rfl ?_
  obtain ⟨hk1, hf⟩ := zite hf
  obtain ⟨r_2, hr_2, hf⟩ := zbd hf
  refine a_get X zf6 hk1 3 (by decide) w_f_RX6_18 rfl (zfv_r hr_2 rfl) dX6_clear_2 ?_
  obtain ⟨hk3, hf⟩ := zite hf
  obtain ⟨v5, h4, hch4, hf⟩ := zc2_e hf
  refine a_callV X r 0 (sX0_waysToShow hch4) zf0 hk3 ydX0_waysToShow w_ml_RX6_79 w_instanceMethod_X0_waysToShow w_sel_X0_waysToShow w_ini_RX0 w_code_X0_waysToShow (by rw [hRf, hRl]; decide) rfl (st := [.ref (base + r0)]) rfl rfl (Nat.le_of_ble_eq_true rfl) dX6_clear_5 ?_
  refine a_aload_n X 0 dX6_clear_8 rfl ?_
  obtain ⟨hk6, hf⟩ := zite hf
  obtain ⟨r_7, hr_7, hf⟩ := zbd hf
  refine a_get X zf6 hk6 3 (by decide) w_f_RX6_18 rfl (zfv_r hr_7 rfl) dX6_clear_9 ?_
  obtain ⟨hk8, hf⟩ := zite hf
  refine a_get X zf0 hk8 12 (by decide) w_f_RX6_83 rfl rfl dX6_clear_12 ?_
  obtain ⟨hn9, hf⟩ := zite hf
  refine a_idiv X hn9 dX6_clear_15 ?_
  refine a_putI X zf6 hk6 6 (by decide) w_f_RX6_86 rfl rfl rfl dX6_clear_16 ?_
  refine a_hp (fun h10 eh10 => ?_)
  have hf := zlet_n eh10 hf
  refine a_aload_n X 1 dX6_clear_19 rfl ?_
  refine a_aload_n X 0 dX6_clear_20 rfl ?_
  obtain ⟨hk11, hf⟩ := zite hf
  obtain ⟨r_12, hr_12, hf⟩ := zbd hf
  refine a_get X zf6 hk11 3 (by decide) w_f_RX6_18 rfl (zfv_r hr_12 rfl) dX6_clear_21 ?_
  obtain ⟨hk13, hf⟩ := zite hf
  refine a_get X zf0 hk13 3 (by decide) w_f_RX6_89 rfl rfl dX6_clear_24 ?_
  refine a_aload_n X 0 dX6_clear_27 rfl ?_
  obtain ⟨r_14, hr_14, hf⟩ := zbd hf
  refine a_get X zf6 hk11 3 (by decide) w_f_RX6_18 rfl (zfv_r hr_14 rfl) dX6_clear_28 ?_
  obtain ⟨hk15, hf⟩ := zite hf
  refine a_get X zf0 hk15 5 (by decide) w_f_RX6_92 rfl rfl dX6_clear_31 ?_
  refine a_aload_n X 0 dX6_clear_34 rfl ?_
  obtain ⟨r_16, hr_16, hf⟩ := zbd hf
  refine a_get X zf6 hk11 3 (by decide) w_f_RX6_18 rfl (zfv_r hr_16 rfl) dX6_clear_35 ?_
  obtain ⟨hk17, hf⟩ := zite hf
  obtain ⟨v19, h18, hch18, hf⟩ := zc2_e hf
  refine a_callV X r 0 (sX0_anyOrder hch18) zf0 hk17 ydX0_anyOrder w_ml_RX6_95 w_instanceMethod_X0_anyOrder w_sel_X0_anyOrder w_ini_RX0 w_code_X0_anyOrder (by rw [hRf, hRl]; decide) rfl (st := [.int (zI h10 r_14 5), .int (zI h10 r_12 3), .ref (base + r1)]) rfl rfl (Nat.le_of_ble_eq_true rfl) dX6_clear_38 ?_
  have hJ49 : ∀ (t0_49 : Int32) (t1_49 : Int32) (t2_49 : Int32) (t3_49 : Nat) (h_49 : Zh), jX6_clear_49 h r0 t0_49 t1_49 t2_49 t3_49 h_49 = some hE → zGA p l e R s m args below meth c (MQ below (zQA D cA base h hE none) args s (zNC - zN h) (zNS - zS h) (zA base)) 4 D cA base h 49 [(0, .ref (base + r0))] [.int t0_49, .int t1_49, .int t2_49, .ref (base + t3_49)] h_49 := by
    intro t0_49 t1_49 t2_49 t3_49 h_49 hf
    unfold jX6_clear_49 at hf
    refine a_aload_n X 0 dX6_clear_49 rfl ?_
    obtain ⟨hk20, hf⟩ := zite hf
    obtain ⟨r_21, hr_21, hf⟩ := zbd hf
    refine a_get X zf6 hk20 5 (by decide) w_f_RX6_25 rfl (zfv_r hr_21 rfl) dX6_clear_50 ?_
    obtain ⟨hk22, hf⟩ := zite hf
    obtain ⟨h23, hch23, hf⟩ := zbd hf
    refine a_callV X r 4 (sX5_list hch23) zf5 hk22 ydX5_list w_ml_RX6_99 w_instanceMethod_X5_list w_sel_X5_list w_ini_RX5 w_code_X5_list (by rw [hRf, hRl]; decide) rfl (st := []) rfl rfl (Nat.le_of_ble_eq_true rfl) dX6_clear_53 ?_
    refine a_aload_n X 0 dX6_clear_56 rfl ?_
    obtain ⟨hk24, hf⟩ := zite hf
    obtain ⟨r_25, hr_25, hf⟩ := zbd hf
    refine a_get X zf6 hk24 3 (by decide) w_f_RX6_18 rfl (zfv_r hr_25 rfl) dX6_clear_57 ?_
    obtain ⟨hk26, hf⟩ := zite hf
    refine a_get X zf0 hk26 9 (by decide) w_f_RX6_50 rfl rfl dX6_clear_60 ?_
    refine a_aload_n X 0 dX6_clear_63 rfl ?_
    refine a_get X zf6 hk24 6 (by decide) w_f_RX6_86 rfl rfl dX6_clear_64 ?_
    refine a_imul X dX6_clear_67 ?_
    refine a_topi (fun y27 ey27 => ?_)
    have hf := zlet_n ey27 hf
    refine a_istore_n X [(2, .int y27), (0, .ref (base + r0))] dX6_clear_68 (by decide) rfl ?_
    refine a_aload_n X 1 dX6_clear_69 rfl ?_
    obtain ⟨r_28, hr_28, hf⟩ := zbd hf
    refine a_get X zf6 hk24 8 (by decide) w_f_RX6_31 rfl (zfv_r hr_28 rfl) dX6_clear_70 ?_
    obtain ⟨hk29, hf⟩ := zite hf
    refine a_alen0 X hk29 dX6_clear_73 ?_
    refine a_iload_n X 0 dX6_clear_74 rfl ?_
    have hJ85 : ∀  (h_85 : Zh), jX6_clear_85 h r0 h_85 = some hE → zGA p l e R s m args below meth c (MQ below (zQA D cA base h hE none) args s (zNC - zN h) (zNS - zS h) (zA base)) 4 D cA base h 85 [(0, .ref (base + r0))] [] h_85 := by
      intro  h_85 hf
      unfold jX6_clear_85 at hf
      refine a_aload_n X 0 dX6_clear_85 rfl ?_
      obtain ⟨hk30, hf⟩ := zite hf
      obtain ⟨r_31, hr_31, hf⟩ := zbd hf
      refine a_get X zf6 hk30 8 (by decide) w_f_RX6_31 rfl (zfv_r hr_31 rfl) dX6_clear_86 ?_
      refine a_iconst X (v := 0) dX6_clear_89 (by decide) ?_
      obtain ⟨h32, hch32, hf⟩ := zbd hf
      refine a_callS X r 2 (sJ7_fill_53178 hch32) ysJ7_fill_53178 w_ml_RX6_105 w_static_J7_fill_53178 w_ini_RJ7 w_code_J7_fill_53178 (by rw [hRf, hRl]; decide) rfl (st := []) rfl rfl (Nat.le_of_ble_eq_true rfl) dX6_clear_90 ?_
      refine a_aload_n X 0 dX6_clear_93 rfl ?_
      obtain ⟨hk33, hf⟩ := zite hf
      obtain ⟨r_34, hr_34, hf⟩ := zbd hf
      refine a_get X zf6 hk33 9 (by decide) w_f_RX6_34 rfl (zfv_r hr_34 rfl) dX6_clear_94 ?_
      obtain ⟨hk35, hf⟩ := zite hf
      refine a_alen0 X hk35 dX6_clear_97 ?_
      refine a_aload_n X 0 dX6_clear_98 rfl ?_
      obtain ⟨r_36, hr_36, hf⟩ := zbd hf
      refine a_get X zf6 hk33 3 (by decide) w_f_RX6_18 rfl (zfv_r hr_36 rfl) dX6_clear_99 ?_
      obtain ⟨hk37, hf⟩ := zite hf
      refine a_get X zf0 hk37 10 (by decide) w_f_RX6_111 rfl rfl dX6_clear_102 ?_
      have hJ121 : ∀  (h_121 : Zh), jX6_clear_121 h r0 h_121 = some hE → zGA p l e R s m args below meth c (MQ below (zQA D cA base h hE none) args s (zNC - zN h) (zNS - zS h) (zA base)) 4 D cA base h 121 [(0, .ref (base + r0))] [] h_121 := by
        intro  h_121 hf
        unfold jX6_clear_121 at hf
        refine a_aload_n X 0 dX6_clear_121 rfl ?_
        obtain ⟨hk38, hf⟩ := zite hf
        obtain ⟨r_39, hr_39, hf⟩ := zbd hf
        refine a_get X zf6 hk38 9 (by decide) w_f_RX6_34 rfl (zfv_r hr_39 rfl) dX6_clear_122 ?_
        refine a_iconst X (v := 0) dX6_clear_125 (by decide) ?_
        obtain ⟨h40, hch40, hf⟩ := zbd hf
        refine a_callS X r 2 (sJ7_fill_53178 hch40) ysJ7_fill_53178 w_ml_RX6_105 w_static_J7_fill_53178 w_ini_RJ7 w_code_J7_fill_53178 (by rw [hRf, hRl]; decide) rfl (st := []) rfl rfl (Nat.le_of_ble_eq_true rfl) dX6_clear_126 ?_
        refine a_aload_n X 0 dX6_clear_129 rfl ?_
        obtain ⟨hk41, hf⟩ := zite hf
        obtain ⟨r_42, hr_42, hf⟩ := zbd hf
        refine a_get X zf6 hk41 0 (by decide) w_f_RX6_9 rfl (zfv_r hr_42 rfl) dX6_clear_130 ?_
        refine a_iconst X (v := -1) dX6_clear_133 (by decide) ?_
        obtain ⟨h43, hch43, hf⟩ := zbd hf
        refine a_callS X r 2 (sJ7_fill_53178 hch43) ysJ7_fill_53178 w_ml_RX6_105 w_static_J7_fill_53178 w_ini_RJ7 w_code_J7_fill_53178 (by rw [hRf, hRl]; decide) rfl (st := []) rfl rfl (Nat.le_of_ble_eq_true rfl) dX6_clear_134 ?_
        refine a_aload_n X 0 dX6_clear_137 rfl ?_
        refine a_iconst X (v := 0) dX6_clear_138 (by decide) ?_
        obtain ⟨hk44, hf⟩ := zite hf
        refine a_putI X zf6 hk44 10 (by decide) w_f_RX6_114 rfl rfl rfl dX6_clear_139 ?_
        refine a_hp (fun h45 eh45 => ?_)
        have hf := zlet_n eh45 hf
        refine a_iconst X (v := 0) dX6_clear_142 (by decide) ?_
        refine a_istore_n X [(3, .int ((0 : Int32))), (0, .ref (base + r0))] dX6_clear_143 (by decide) rfl ?_
        refine a_sub [1, 0] rfl ?_
        obtain ⟨qq, hlp, hf⟩ := zbd hf
        refine lp_snd (body := (fun q : Int32 × Zh => bX6_clear_144 h r0 q.1 q.2)) (P := (fun q : Int32 × Zh => zGA p l e R s m args below meth c (MQ below (zQA D cA base h hE none) args s (zNC - zN h) (zNS - zS h) (zA base)) 4 D cA base h 144 [(0, .ref (base + r0)), (3, .int q.1)] [] q.2)) (E := (fun (en : Nat) (q : Int32 × Zh) => zGA p l e R s m args below meth c (MQ below (zQA D cA base h hE none) args s (zNC - zN h) (zNS - zS h) (zA base)) 4 D cA base h 176 [] [] q.2)) ?_ zB ((0 : Int32), h45) qq.1 qq.2 hlp ?_
        · intro q e_144 q_144 hf hc0 hc1
          obtain ⟨x3_144, h_144⟩ := q
          have hf : bX6_clear_144 h r0 x3_144 h_144 = some (e_144, q_144) := hf
          unfold bX6_clear_144 at hf
          show zGA p l e R s m args below meth c (MQ below (zQA D cA base h hE none) args s (zNC - zN h) (zNS - zS h) (zA base)) 4 D cA base h 144 [(0, .ref (base + r0)), (3, .int x3_144)] [] h_144
          refine a_iload_n X 1 dX6_clear_144 rfl ?_
          refine a_aload_n X 0 dX6_clear_145 rfl ?_
          obtain ⟨hk46, hf⟩ := zite hf
          obtain ⟨r_47, hr_47, hf⟩ := zbd hf
          refine a_get X zf6 hk46 3 (by decide) w_f_RX6_18 rfl (zfv_r hr_47 rfl) dX6_clear_146 ?_
          obtain ⟨hk48, hf⟩ := zite hf
          refine a_get X zf0 hk48 9 (by decide) w_f_RX6_50 rfl rfl dX6_clear_149 ?_
          refine a_icmp_ge X 176 dX6_clear_152 (by decide) (fun hq => ?_) (fun hq => ?_)
          · have hf := zpos hq hf
            cases hf
            have hc1 := hc1 (by decide)
            exact a_sub [] rfl hc1
          · have hf := zneg hq hf
            refine a_aload_n X 0 dX6_clear_155 rfl ?_
            obtain ⟨r_49, hr_49, hf⟩ := zbd hf
            refine a_get X zf6 hk46 3 (by decide) w_f_RX6_18 rfl (zfv_r hr_49 rfl) dX6_clear_156 ?_
            obtain ⟨hk50, hf⟩ := zite hf
            refine a_get X zf0 hk50 6 (by decide) w_f_RX6_117 rfl rfl dX6_clear_159 ?_
            refine a_if_eq X 176 dX6_clear_162 (by decide) (fun hq => ?_) (fun hq => ?_)
            · have hf := zpos hq hf
              cases hf
              have hc1 := hc1 (by decide)
              exact a_sub [] rfl hc1
            · have hf := zneg hq hf
              refine a_aload_n X 0 dX6_clear_165 rfl ?_
              refine a_iload_n X 1 dX6_clear_166 rfl ?_
              obtain ⟨h51, hch51, hf⟩ := zbd hf
              refine a_callV X r 1 (sX6_sortRows hch51) zf6 hk46 ydX6_sortRows w_ml_RX6_120 w_instanceMethod_X6_sortRows w_sel_X6_sortRows w_ini_RX6 w_code_X6_sortRows (by rw [hRf, hRl]; decide) rfl (st := []) rfl rfl (Nat.le_of_ble_eq_true rfl) dX6_clear_167 ?_
              obtain ⟨y52, ey52⟩ : ∃ y : Int32, y = x3_144 + (1 : Int32) := ⟨_, rfl⟩
              have hf := zlet_n ey52 hf
              refine a_iinc X (j := 1) [(3, .int y52), (0, .ref (base + r0))] dX6_clear_170 rfl (by rw [ey52]; rfl) (by decide) rfl ?_
              refine a_goto X 144 dX6_clear_173 (by decide) ?_
              cases hf
              exact a_sub [1, 0] rfl (hc0 rfl)
        · obtain ⟨ee, x3_k144, h_k144⟩ := qq
          have hf : kX6_clear_144 h ee x3_k144 h_k144 = some hE := hf
          unfold kX6_clear_144 at hf
          show zGA p l e R s m args below meth c (MQ below (zQA D cA base h hE none) args s (zNC - zN h) (zNS - zS h) (zA base)) 4 D cA base h 176 [] [] h_k144
          cases hf
          exact a_vret X hr dX6_clear_176
      refine a_icmp_ge X 121 dX6_clear_105 (by decide) (fun hq => ?_) (fun hq => ?_)
      · have hf := zpos hq hf
        refine a_sub [0] rfl ?_
        exact hJ121 _ hf
      · have hf := zneg hq hf
        refine a_aload_n X 0 dX6_clear_108 rfl ?_
        refine a_aload_n X 0 dX6_clear_109 rfl ?_
        obtain ⟨r_53, hr_53, hf⟩ := zbd hf
        refine a_get X zf6 hk33 3 (by decide) w_f_RX6_18 rfl (zfv_r hr_53 rfl) dX6_clear_110 ?_
        obtain ⟨hk54, hf⟩ := zite hf
        refine a_get X zf0 hk54 10 (by decide) w_f_RX6_111 rfl rfl dX6_clear_113 ?_
        obtain ⟨hn57, hf⟩ := zite hf
        obtain ⟨hc55, hf⟩ := zite hf
        refine a_newa0 X r hn57 hc55 w_ac_int dX6_clear_116 ?_
        refine a_hp (fun h56 eh56 => ?_)
        have hf := zlet_n eh56 hf
        obtain ⟨hk58, hf⟩ := zite hf
        refine a_putR X zf6 hk58 9 (by decide) w_f_RX6_34 rfl rfl rfl dX6_clear_118 ?_
        refine a_hp (fun h59 eh59 => ?_)
        have hf := zlet_n eh59 hf
        refine a_sub [0] rfl ?_
        exact hJ121 _ hf
    refine a_icmp_ge X 85 dX6_clear_75 (by decide) (fun hq => ?_) (fun hq => ?_)
    · have hf := zpos hq hf
      refine a_sub [1] rfl ?_
      exact hJ85 _ hf
    · have hf := zneg hq hf
      refine a_aload_n X 1 dX6_clear_78 rfl ?_
      refine a_iload_n X 0 dX6_clear_79 rfl ?_
      obtain ⟨hn62, hf⟩ := zite hf
      obtain ⟨hc60, hf⟩ := zite hf
      refine a_newa0 X r hn62 hc60 w_ac_int dX6_clear_80 ?_
      refine a_hp (fun h61 eh61 => ?_)
      have hf := zlet_n eh61 hf
      obtain ⟨hk63, hf⟩ := zite hf
      refine a_putR X zf6 hk63 8 (by decide) w_f_RX6_31 rfl rfl rfl dX6_clear_82 ?_
      refine a_hp (fun h64 eh64 => ?_)
      have hf := zlet_n eh64 hf
      refine a_sub [1] rfl ?_
      exact hJ85 _ hf
  refine a_if_ne X 48 dX6_clear_41 (by decide) (fun hq => ?_) (fun hq => ?_)
  · have hf := zneg hq hf
    refine a_iconst X (v := 0) dX6_clear_48 (by decide) ?_
    refine a_sub [0] rfl ?_
    exact hJ49 _ _ _ _ _ hf
  · have hf := zpos hq hf
    refine a_iconst X (v := 1) dX6_clear_44 (by decide) ?_
    refine a_goto X 49 dX6_clear_45 (by decide) ?_
    refine a_sub [0] rfl ?_
    exact hJ49 _ _ _ _ _ hf

