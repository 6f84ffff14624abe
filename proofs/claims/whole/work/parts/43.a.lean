/-! FifthCard Pairing solve -/
def bX6_solve_87 (g : Zh) (r0 : Nat) (x4 : Int32) (h : Zh) : Option (Nat × Int32 × Zh) :=
  if zK h r0 = 6 then (zR h r0 3).bind fun r_16 => if zK h r_16 = 0 then if (zI h r_16 9) ≤ x4 then some (1, (x4, h)) else if (zI h r0 2) = 0 then some (1, (x4, h)) else zlet (zsI h r0 14 ((zI h r0 14) + ((1 : Int32)))) fun h18 => if zK h18 r0 = 6 then zc2 (fX6_rehome r0 x4 h18) fun v21 h20 => if zK h20 r0 = 6 then if v21 = 0 ∨ v21 = 1 then zlet (zsI h20 r0 2 v21) fun h23 => zlet (x4 + (1 : Int32)) fun y25 => some (0, (y25, h23)) else none else none else none else none else none
def bX6_solve_135 (g : Zh) (r0 : Nat) (x4 : Int32) (h : Zh) : Option (Nat × Int32 × Zh) :=
  if zK h r0 = 6 then (zR h r0 3).bind fun r_27 => if zK h r_27 = 0 then if (zI h r_27 9) ≤ x4 then some (1, (x4, h)) else if (zI h r0 2) = 0 then some (1, (x4, h)) else (fX6_settleLeast r0 x4 h).bind fun h29 => zlet (x4 + (1 : Int32)) fun y30 => some (0, (y30, h29)) else none else none
def kX6_solve_135 (g : Zh)  (e : Nat) (x4 : Int32) (h : Zh) : Option Zh :=
  some h
def kX6_solve_87 (g : Zh) (r0 : Nat) (e : Nat) (x4 : Int32) (h : Zh) : Option Zh :=
  (lp (fun q : Int32 × Zh => bX6_solve_135 g r0 q.1 q.2) zB ((0 : Int32), h)).bind fun q => kX6_solve_135 g q.1 q.2.1 q.2.2
def jX6_solve_68 (g : Zh) (r0 : Nat) (r3 : Nat) (t0 : Int32) (t1 : Nat) (h : Zh) : Option Zh :=
  if zK h t1 = 6 then if t0 = 0 ∨ t0 = 1 then zlet (zsI h t1 2 t0) fun h11 => if zK h11 r0 = 6 then if (zI h11 r0 2) = 0 then some h11 else (fX6_clear r0 r3 h11).bind fun h14 => (lp (fun q : Int32 × Zh => bX6_solve_87 g r0 q.1 q.2) zB ((0 : Int32), h14)).bind fun q => kX6_solve_87 g r0 q.1 q.2.1 q.2.2 else none else none else none
def jX6_solve_67 (g : Zh) (r0 : Nat) (r3 : Nat) (t0 : Nat) (h : Zh) : Option Zh :=
  jX6_solve_68 g r0 r3 ((0 : Int32)) t0 h
def fX6_solve (r0 : Nat) (r1 : Nat) (r2 : Nat) (r3 : Nat) (h : Zh) : Option Zh := zlet h fun g =>
  if zK h r0 = 6 then if (zI h r0 1) = 0 then zlet (zsI h r0 1 ((1 : Int32))) fun h2 => if zK h2 r0 = 6 then zlet (zsR h2 r0 3 (some r1)) fun h4 => if zK h4 r0 = 6 then zlet (zsR h4 r0 4 (some r2)) fun h6 => if zK h6 r0 = 6 then (zR h6 r0 3).bind fun r_8 => if zK h6 r_8 = 0 then if ((300 : Int32)) < (zI h6 r_8 9) then jX6_solve_67 g r0 r3 r0 h6 else (zR h6 r0 3).bind fun r_31 => if zK h6 r_31 = 0 then (zR h6 r0 3).bind fun r_33 => (zR h6 r0 3).bind fun r_34 => if zK h6 r_34 = 0 then if zK h6 r_33 = 0 then zc2 (fX0_rowsOf r_33 (zI h6 r_34 0) h6) fun v38 h37 => if 0 < (lg_cmp ((zI h6 r_31 9).toInt64) v38) then jX6_solve_67 g r0 r3 r0 h37 else jX6_solve_68 g r0 r3 ((1 : Int32)) r0 h37 else none else none else none else none else none else none else none else some h else none
/-! FifthCard Ledger laidBy -/
def bX4_laidBy_64 (g : Zh) (r0 : Nat) (x1 : Int32) (r2 : Nat) (x3 : Int32) (h : Zh) : Option (Nat × Int32 × Zh) :=
  if zK h r0 = 4 then (zR h r0 1).bind fun r_19 => if zK h r_19 = 9 then (zR h r_19 1).bind fun r_21 => if zK h r_21 = 0 then if (zI h r_21 9) ≤ x3 then some (1, (x3, h)) else (zR h r0 1).bind fun r_23 => if zK h r_23 = 9 then (zR h r_23 2).bind fun r_25 => if zK h r_25 = 100 then if zin x1 (zL h r_25) then zc2 (fX4_rowFor r0 (zI h r_25 x1.toNatClampNeg) x3 h) fun v29 h28 => if zK h28 r0 = 4 then (fX4_note r0 r2 x3 v29 h28).bind fun h31 => zlet (x3 + (1 : Int32)) fun y32 => some (0, (y32, h31)) else none else none else none else none else none else none else none
def kX4_laidBy_64 (g : Zh) (r2 : Nat) (e : Nat) (x3 : Int32) (h : Zh) : Option (Nat × Zh) :=
  some (r2, h)
def jX4_laidBy_55 (g : Zh) (r0 : Nat) (x1 : Int32) (r2 : Nat) (h : Zh) : Option (Nat × Zh) :=
  if zK h r0 = 4 then (zR h r0 4).bind fun r_15 => if zK h r_15 = 8 then (fX8_clear r_15 h).bind fun h17 => (lp (fun q : Int32 × Zh => bX4_laidBy_64 g r0 x1 r2 q.1 q.2) zB ((0 : Int32), h17)).bind fun q => kX4_laidBy_64 g r2 q.1 q.2.1 q.2.2 else none else none
def fX4_laidBy (r0 : Nat) (x1 : Int32) (h : Zh) : Option (Nat × Zh) := zlet h fun g =>
  if zK h r0 = 4 then (zR h r0 6).bind fun r_2 => if zK h r_2 = 104 then if zin x1 (zL h r_2) then (zR h r_2 x1.toNatClampNeg).bind fun r_5 => if zK h r_5 = 2 then if (zI h r_5 2) = 0 then zlet (zsI h r_5 2 ((1 : Int32))) fun h7 => if zK h7 r0 = 4 then (zR h7 r0 1).bind fun r_9 => if zK h7 r_9 = 9 then (zR h7 r_9 2).bind fun r_11 => if zK h7 r_11 = 100 then if zin x1 (zL h7 r_11) then if (zI h7 r_11 x1.toNatClampNeg) = ((21 : Int32)) then (zR h7 r0 5).bind fun r_33 => (zR h7 r0 1).bind fun r_34 => if zK h7 r_34 = 9 then (zR h7 r_34 1).bind fun r_36 => (zR h7 r0 0).bind fun r_37 => (zR h7 r0 2).bind fun r_38 => if zK h7 r_33 = 6 then (fX6_solve r_33 r_36 r_37 r_38 h7).bind fun h40 => jX4_laidBy_55 g r0 x1 r_5 h40 else none else none else jX4_laidBy_55 g r0 x1 r_5 h7 else none else none else none else none else some (r_5, h) else none else none else none else none
/-! FifthCard Ledger readyTable -/
def fX4_readyTable (r0 : Nat) (h : Zh) : Option Zh := zlet h fun g =>
  if zK h r0 = 4 then (zR h r0 5).bind fun r_2 => (zR h r0 1).bind fun r_3 => if zK h r_3 = 9 then (zR h r_3 1).bind fun r_5 => (zR h r0 0).bind fun r_6 => (zR h r0 2).bind fun r_7 => if zK h r_2 = 6 then (fX6_solve r_2 r_5 r_6 r_7 h).bind fun h9 => some h9 else none else none else none
/-! FifthCard Reader init -/
def fX7_init (r0 : Nat) (h : Zh) : Option Zh := zlet h fun g =>
  if 0 ≤ ((0 : Int32)).toInt ∧ ((0 : Int32)).toInt ≤ 1000000 then if zN h + 1 ≤ zNC ∧ zS h + ((0 : Int32)).toNatClampNeg ≤ zNS then zlet (znw h 101 ((0 : Int32)).toNatClampNeg ((0 : Int32)).toNatClampNeg) fun h2 => if zK h2 r0 = 7 then zlet (zsR h2 r0 2 (some (zN h))) fun h5 => if zN h5 + 1 ≤ zNC ∧ zS h5 + 5 ≤ zNS then zlet (znw h5 9 0 5) fun h7 => (fX9_init (zN h5) h7).bind fun h8 => if zK h8 r0 = 7 then zlet (zsR h8 r0 4 (some (zN h5))) fun h10 => if 0 ≤ ((4 : Int32)).toInt ∧ ((4 : Int32)).toInt ≤ 1000000 then if zN h10 + 1 ≤ zNC ∧ zS h10 + ((4 : Int32)).toNatClampNeg ≤ zNS then zlet (znw h10 100 ((4 : Int32)).toNatClampNeg ((4 : Int32)).toNatClampNeg) fun h12 => if zK h12 r0 = 7 then zlet (zsR h12 r0 5 (some (zN h10))) fun h15 => if 0 ≤ ((4 : Int32)).toInt ∧ ((4 : Int32)).toInt ≤ 1000000 then if zN h15 + 1 ≤ zNC ∧ zS h15 + ((4 : Int32)).toNatClampNeg ≤ zNS then zlet (znw h15 100 ((4 : Int32)).toNatClampNeg ((4 : Int32)).toNatClampNeg) fun h17 => if zK h17 r0 = 7 then zlet (zsR h17 r0 6 (some (zN h15))) fun h20 => if 0 ≤ ((5 : Int32)).toInt ∧ ((5 : Int32)).toInt ≤ 1000000 then if zN h20 + 1 ≤ zNC ∧ zS h20 + ((5 : Int32)).toNatClampNeg ≤ zNS then zlet (znw h20 100 ((5 : Int32)).toNatClampNeg ((5 : Int32)).toNatClampNeg) fun h22 => if zK h22 r0 = 7 then zlet (zsR h22 r0 7 (some (zN h20))) fun h25 => some h25 else none else none else none else none else none else none else none else none else none else none else none else none else none else none
/-! FifthCard init -/
def fX10_init (r0 : Nat) (h : Zh) : Option Zh := zlet h fun g =>
  if 0 ≤ ((900 : Int32)).toInt ∧ ((900 : Int32)).toInt ≤ 1000000 then if zN h + 1 ≤ zNC ∧ zS h + ((900 : Int32)).toNatClampNeg ≤ zNS then zlet (znw h 101 ((900 : Int32)).toNatClampNeg ((900 : Int32)).toNatClampNeg) fun h2 => if zK h2 r0 = 10 then zlet (zsR h2 r0 0 (some (zN h))) fun h5 => if zN h5 + 1 ≤ zNC ∧ zS h5 + 12 ≤ zNS then zlet (znw h5 7 0 12) fun h7 => (fX7_init (zN h5) h7).bind fun h8 => if zK h8 r0 = 10 then zlet (zsR h8 r0 2 (some (zN h5))) fun h10 => if zN h10 + 1 ≤ zNC ∧ zS h10 + 5 ≤ zNS then zlet (znw h10 9 0 5) fun h12 => (fX9_init (zN h10) h12).bind fun h13 => if zK h13 r0 = 10 then zlet (zsR h13 r0 3 (some (zN h10))) fun h15 => if zN h15 + 1 ≤ zNC ∧ zS h15 + 5 ≤ zNS then zlet (znw h15 9 0 5) fun h17 => (fX9_init (zN h15) h17).bind fun h18 => if zK h18 r0 = 10 then zlet (zsR h18 r0 4 (some (zN h15))) fun h20 => if zN h20 + 1 ≤ zNC ∧ zS h20 + 11 ≤ zNS then zlet (znw h20 4 0 11) fun h22 => (fX4_init (zN h20) h22).bind fun h23 => if zK h23 r0 = 10 then zlet (zsR h23 r0 5 (some (zN h20))) fun h25 => if 0 ≤ ((3 : Int32)).toInt ∧ ((3 : Int32)).toInt ≤ 1000000 then if zN h25 + 1 ≤ zNC ∧ zS h25 + ((3 : Int32)).toNatClampNeg ≤ zNS then zlet (znw h25 105 ((3 : Int32)).toNatClampNeg ((3 : Int32)).toNatClampNeg) fun h27 => if zN h27 + 1 ≤ zNC ∧ zS h27 + 4 ≤ zNS then zlet (znw h27 1 0 4) fun h30 => (fX1_init (zN h27) h30).bind fun h31 => if zK h31 (zN h25) = 105 then if zK h31 (zN h27) = 1 then if zin ((0 : Int32)) (zL h31 (zN h25)) then zlet (zsR h31 (zN h25) ((0 : Int32)).toNatClampNeg (some (zN h27))) fun h35 => if zN h35 + 1 ≤ zNC ∧ zS h35 + 4 ≤ zNS then zlet (znw h35 1 0 4) fun h37 => (fX1_init (zN h35) h37).bind fun h38 => if zK h38 (zN h25) = 105 then if zK h38 (zN h35) = 1 then if zin ((1 : Int32)) (zL h38 (zN h25)) then zlet (zsR h38 (zN h25) ((1 : Int32)).toNatClampNeg (some (zN h35))) fun h42 => if zN h42 + 1 ≤ zNC ∧ zS h42 + 4 ≤ zNS then zlet (znw h42 1 0 4) fun h44 => (fX1_init (zN h42) h44).bind fun h45 => if zK h45 (zN h25) = 105 then if zK h45 (zN h42) = 1 then if zin ((2 : Int32)) (zL h45 (zN h25)) then zlet (zsR h45 (zN h25) ((2 : Int32)).toNatClampNeg (some (zN h42))) fun h49 => if zK h49 r0 = 10 then zlet (zsR h49 r0 6 (some (zN h25))) fun h51 => if 0 ≤ ((5 : Int32)).toInt ∧ ((5 : Int32)).toInt ≤ 1000000 then if zN h51 + 1 ≤ zNC ∧ zS h51 + ((5 : Int32)).toNatClampNeg ≤ zNS then zlet (znw h51 100 ((5 : Int32)).toNatClampNeg ((5 : Int32)).toNatClampNeg) fun h53 => if zK h53 r0 = 10 then zlet (zsR h53 r0 11 (some (zN h51))) fun h56 => some h56 else none else none else none else none else none else none else none else none else none else none else none else none else none else none else none else none else none else none else none else none else none else none else none else none else none else none else none else none else none
/-! FifthCard lays -/
def fX10_lays (r0 : Nat) (x1 : Int32) (x2 : Int32) (h : Zh) : Option (Int32 × Zh) := zlet h fun g =>
  if zK h r0 = 10 then zc2 (fX10_noRule r0 x1 h) fun v3 h2 => if v3 = 0 then if zK h2 r0 = 10 then zc2 (fX10_noHand r0 x2 h2) fun v9 h8 => if v9 = 0 then if zK h8 r0 = 10 then (zR h8 r0 5).bind fun r_11 => if zK h8 r_11 = 4 then zc2 (fX4_laidBy r_11 x1 h8) fun v14 h13 => if zK h13 v14 = 2 then (zR h13 v14 1).bind fun r_16 => if zK h13 r_16 = 100 then if zin x2 (zL h13 r_16) then if zK h13 r0 = 10 then zc2 (fX10_answer r0 (zI h13 r_16 x2.toNatClampNeg) h13) fun v21 h20 => some (v21, h20) else none else none else none else none else none else none else if zK h8 r0 = 10 then zc2 (fX10_refuse r0 ((1 : Int32)) h8) fun v24 h23 => some (v24, h23) else none else none else if zK h2 r0 = 10 then zc2 (fX10_refuse r0 ((1 : Int32)) h2) fun v6 h5 => some (v6, h5) else none else none
theorem dX6_solve_0 : decode cX6_solve 0 = .ok (.aload_n 0, 1) := by decide +kernel
theorem dX6_solve_1 : decode cX6_solve 1 = .ok (.getfield 46, 3) := by decide +kernel
theorem dX6_solve_4 : decode cX6_solve 4 = .ok (.ifCond .eq 4, 3) := by decide +kernel
theorem dX6_solve_7 : decode cX6_solve 7 = .ok (.return_, 1) := by decide +kernel
theorem dX6_solve_8 : decode cX6_solve 8 = .ok (.aload_n 0, 1) := by decide +kernel
theorem dX6_solve_9 : decode cX6_solve 9 = .ok (.iconst 1, 1) := by decide +kernel
theorem dX6_solve_10 : decode cX6_solve 10 = .ok (.putfield 46, 3) := by decide +kernel
theorem dX6_solve_13 : decode cX6_solve 13 = .ok (.aload_n 0, 1) := by decide +kernel
theorem dX6_solve_14 : decode cX6_solve 14 = .ok (.aload_n 1, 1) := by decide +kernel
theorem dX6_solve_15 : decode cX6_solve 15 = .ok (.putfield 18, 3) := by decide +kernel
theorem dX6_solve_18 : decode cX6_solve 18 = .ok (.aload_n 0, 1) := by decide +kernel
theorem dX6_solve_19 : decode cX6_solve 19 = .ok (.aload_n 2, 1) := by decide +kernel
theorem dX6_solve_20 : decode cX6_solve 20 = .ok (.putfield 22, 3) := by decide +kernel
theorem dX6_solve_23 : decode cX6_solve 23 = .ok (.aload_n 0, 1) := by decide +kernel
theorem dX6_solve_24 : decode cX6_solve 24 = .ok (.aload_n 0, 1) := by decide +kernel
theorem dX6_solve_25 : decode cX6_solve 25 = .ok (.getfield 18, 3) := by decide +kernel
theorem dX6_solve_28 : decode cX6_solve 28 = .ok (.getfield 50, 3) := by decide +kernel
theorem dX6_solve_31 : decode cX6_solve 31 = .ok (.sipush 300, 3) := by decide +kernel
theorem dX6_solve_34 : decode cX6_solve 34 = .ok (.if_icmp .gt 33, 3) := by decide +kernel
theorem dX6_solve_37 : decode cX6_solve 37 = .ok (.aload_n 0, 1) := by decide +kernel
theorem dX6_solve_38 : decode cX6_solve 38 = .ok (.getfield 18, 3) := by decide +kernel
theorem dX6_solve_41 : decode cX6_solve 41 = .ok (.getfield 50, 3) := by decide +kernel
theorem dX6_solve_44 : decode cX6_solve 44 = .ok (.i2l, 1) := by decide +kernel
theorem dX6_solve_45 : decode cX6_solve 45 = .ok (.aload_n 0, 1) := by decide +kernel
theorem dX6_solve_46 : decode cX6_solve 46 = .ok (.getfield 18, 3) := by decide +kernel
theorem dX6_solve_49 : decode cX6_solve 49 = .ok (.aload_n 0, 1) := by decide +kernel
theorem dX6_solve_50 : decode cX6_solve 50 = .ok (.getfield 18, 3) := by decide +kernel
theorem dX6_solve_53 : decode cX6_solve 53 = .ok (.getfield 54, 3) := by decide +kernel
theorem dX6_solve_56 : decode cX6_solve 56 = .ok (.invokevirtual 57, 3) := by decide +kernel
theorem dX6_solve_59 : decode cX6_solve 59 = .ok (.lcmp, 1) := by decide +kernel
theorem dX6_solve_60 : decode cX6_solve 60 = .ok (.ifCond .gt 7, 3) := by decide +kernel
theorem dX6_solve_63 : decode cX6_solve 63 = .ok (.iconst 1, 1) := by decide +kernel
theorem dX6_solve_64 : decode cX6_solve 64 = .ok (.goto 4, 3) := by decide +kernel
theorem dX6_solve_67 : decode cX6_solve 67 = .ok (.iconst 0, 1) := by decide +kernel
theorem dX6_solve_68 : decode cX6_solve 68 = .ok (.putfield 61, 3) := by decide +kernel
theorem dX6_solve_71 : decode cX6_solve 71 = .ok (.aload_n 0, 1) := by decide +kernel
theorem dX6_solve_72 : decode cX6_solve 72 = .ok (.getfield 61, 3) := by decide +kernel
theorem dX6_solve_75 : decode cX6_solve 75 = .ok (.ifCond .ne 4, 3) := by decide +kernel
theorem dX6_solve_78 : decode cX6_solve 78 = .ok (.return_, 1) := by decide +kernel
theorem dX6_solve_79 : decode cX6_solve 79 = .ok (.aload_n 0, 1) := by decide +kernel
theorem dX6_solve_80 : decode cX6_solve 80 = .ok (.aload_n 3, 1) := by decide +kernel
theorem dX6_solve_81 : decode cX6_solve 81 = .ok (.invokevirtual 64, 3) := by decide +kernel
theorem dX6_solve_84 : decode cX6_solve 84 = .ok (.iconst 0, 1) := by decide +kernel
theorem dX6_solve_85 : decode cX6_solve 85 = .ok (.istore 4, 2) := by decide +kernel
theorem dX6_solve_87 : decode cX6_solve 87 = .ok (.iload 4, 2) := by decide +kernel
theorem dX6_solve_89 : decode cX6_solve 89 = .ok (.aload_n 0, 1) := by decide +kernel
theorem dX6_solve_90 : decode cX6_solve 90 = .ok (.getfield 18, 3) := by decide +kernel
theorem dX6_solve_93 : decode cX6_solve 93 = .ok (.getfield 50, 3) := by decide +kernel
theorem dX6_solve_96 : decode cX6_solve 96 = .ok (.if_icmp .ge 36, 3) := by decide +kernel
theorem dX6_solve_99 : decode cX6_solve 99 = .ok (.aload_n 0, 1) := by decide +kernel
theorem dX6_solve_100 : decode cX6_solve 100 = .ok (.getfield 61, 3) := by decide +kernel
theorem dX6_solve_103 : decode cX6_solve 103 = .ok (.ifCond .eq 29, 3) := by decide +kernel
theorem dX6_solve_106 : decode cX6_solve 106 = .ok (.aload_n 0, 1) := by decide +kernel
theorem dX6_solve_107 : decode cX6_solve 107 = .ok (.dup, 1) := by decide +kernel
theorem dX6_solve_108 : decode cX6_solve 108 = .ok (.getfield 68, 3) := by decide +kernel
theorem dX6_solve_111 : decode cX6_solve 111 = .ok (.iconst 1, 1) := by decide +kernel
theorem dX6_solve_112 : decode cX6_solve 112 = .ok (.iadd, 1) := by decide +kernel
theorem dX6_solve_113 : decode cX6_solve 113 = .ok (.putfield 68, 3) := by decide +kernel
theorem dX6_solve_116 : decode cX6_solve 116 = .ok (.aload_n 0, 1) := by decide +kernel
theorem dX6_solve_117 : decode cX6_solve 117 = .ok (.aload_n 0, 1) := by decide +kernel
theorem dX6_solve_118 : decode cX6_solve 118 = .ok (.iload 4, 2) := by decide +kernel
theorem dX6_solve_120 : decode cX6_solve 120 = .ok (.invokevirtual 71, 3) := by decide +kernel
theorem dX6_solve_123 : decode cX6_solve 123 = .ok (.putfield 61, 3) := by decide +kernel
theorem dX6_solve_126 : decode cX6_solve 126 = .ok (.iinc 4 1, 3) := by decide +kernel
theorem dX6_solve_129 : decode cX6_solve 129 = .ok (.goto (-42), 3) := by decide +kernel
theorem dX6_solve_132 : decode cX6_solve 132 = .ok (.iconst 0, 1) := by decide +kernel
theorem dX6_solve_133 : decode cX6_solve 133 = .ok (.istore 4, 2) := by decide +kernel
theorem dX6_solve_135 : decode cX6_solve 135 = .ok (.iload 4, 2) := by decide +kernel
theorem dX6_solve_137 : decode cX6_solve 137 = .ok (.aload_n 0, 1) := by decide +kernel
theorem dX6_solve_138 : decode cX6_solve 138 = .ok (.getfield 18, 3) := by decide +kernel
theorem dX6_solve_141 : decode cX6_solve 141 = .ok (.getfield 50, 3) := by decide +kernel
theorem dX6_solve_144 : decode cX6_solve 144 = .ok (.if_icmp .ge 22, 3) := by decide +kernel
theorem dX6_solve_147 : decode cX6_solve 147 = .ok (.aload_n 0, 1) := by decide +kernel
theorem dX6_solve_148 : decode cX6_solve 148 = .ok (.getfield 61, 3) := by decide +kernel
theorem dX6_solve_151 : decode cX6_solve 151 = .ok (.ifCond .eq 15, 3) := by decide +kernel
theorem dX6_solve_154 : decode cX6_solve 154 = .ok (.aload_n 0, 1) := by decide +kernel
theorem dX6_solve_155 : decode cX6_solve 155 = .ok (.iload 4, 2) := by decide +kernel
theorem dX6_solve_157 : decode cX6_solve 157 = .ok (.invokevirtual 75, 3) := by decide +kernel
theorem dX6_solve_160 : decode cX6_solve 160 = .ok (.iinc 4 1, 3) := by decide +kernel
theorem dX6_solve_163 : decode cX6_solve 163 = .ok (.goto (-28), 3) := by decide +kernel
theorem dX6_solve_166 : decode cX6_solve 166 = .ok (.return_, 1) := by decide +kernel
theorem dX4_laidBy_0 : decode cX4_laidBy 0 = .ok (.aload_n 0, 1) := by decide +kernel
theorem dX4_laidBy_1 : decode cX4_laidBy 1 = .ok (.getfield 55, 3) := by decide +kernel
theorem dX4_laidBy_4 : decode cX4_laidBy 4 = .ok (.iload_n 1, 1) := by decide +kernel
theorem dX4_laidBy_5 : decode cX4_laidBy 5 = .ok (.aaload, 1) := by decide +kernel
theorem dX4_laidBy_6 : decode cX4_laidBy 6 = .ok (.astore_n 2, 1) := by decide +kernel
theorem dX4_laidBy_7 : decode cX4_laidBy 7 = .ok (.aload_n 2, 1) := by decide +kernel
theorem dX4_laidBy_8 : decode cX4_laidBy 8 = .ok (.getfield 104, 3) := by decide +kernel
theorem dX4_laidBy_11 : decode cX4_laidBy 11 = .ok (.ifCond .ne 93, 3) := by decide +kernel
theorem dX4_laidBy_14 : decode cX4_laidBy 14 = .ok (.aload_n 2, 1) := by decide +kernel
theorem dX4_laidBy_15 : decode cX4_laidBy 15 = .ok (.iconst 1, 1) := by decide +kernel
theorem dX4_laidBy_16 : decode cX4_laidBy 16 = .ok (.putfield 104, 3) := by decide +kernel
theorem dX4_laidBy_19 : decode cX4_laidBy 19 = .ok (.aload_n 0, 1) := by decide +kernel
theorem dX4_laidBy_20 : decode cX4_laidBy 20 = .ok (.getfield 18, 3) := by decide +kernel
theorem dX4_laidBy_23 : decode cX4_laidBy 23 = .ok (.getfield 107, 3) := by decide +kernel
theorem dX4_laidBy_26 : decode cX4_laidBy 26 = .ok (.iload_n 1, 1) := by decide +kernel
theorem dX4_laidBy_27 : decode cX4_laidBy 27 = .ok (.iaload, 1) := by decide +kernel
theorem dX4_laidBy_28 : decode cX4_laidBy 28 = .ok (.bipush 21, 2) := by decide +kernel
theorem dX4_laidBy_30 : decode cX4_laidBy 30 = .ok (.if_icmp .ne 25, 3) := by decide +kernel
theorem dX4_laidBy_33 : decode cX4_laidBy 33 = .ok (.aload_n 0, 1) := by decide +kernel
theorem dX4_laidBy_34 : decode cX4_laidBy 34 = .ok (.getfield 46, 3) := by decide +kernel
theorem dX4_laidBy_37 : decode cX4_laidBy 37 = .ok (.aload_n 0, 1) := by decide +kernel
theorem dX4_laidBy_38 : decode cX4_laidBy 38 = .ok (.getfield 18, 3) := by decide +kernel
theorem dX4_laidBy_41 : decode cX4_laidBy 41 = .ok (.getfield 68, 3) := by decide +kernel
theorem dX4_laidBy_44 : decode cX4_laidBy 44 = .ok (.aload_n 0, 1) := by decide +kernel
theorem dX4_laidBy_45 : decode cX4_laidBy 45 = .ok (.getfield 9, 3) := by decide +kernel
theorem dX4_laidBy_48 : decode cX4_laidBy 48 = .ok (.aload_n 0, 1) := by decide +kernel
theorem dX4_laidBy_49 : decode cX4_laidBy 49 = .ok (.getfield 25, 3) := by decide +kernel
theorem dX4_laidBy_52 : decode cX4_laidBy 52 = .ok (.invokevirtual 110, 3) := by decide +kernel
theorem dX4_laidBy_55 : decode cX4_laidBy 55 = .ok (.aload_n 0, 1) := by decide +kernel
theorem dX4_laidBy_56 : decode cX4_laidBy 56 = .ok (.getfield 39, 3) := by decide +kernel
theorem dX4_laidBy_59 : decode cX4_laidBy 59 = .ok (.invokevirtual 114, 3) := by decide +kernel
theorem dX4_laidBy_62 : decode cX4_laidBy 62 = .ok (.iconst 0, 1) := by decide +kernel
theorem dX4_laidBy_63 : decode cX4_laidBy 63 = .ok (.istore_n 3, 1) := by decide +kernel
theorem dX4_laidBy_64 : decode cX4_laidBy 64 = .ok (.iload_n 3, 1) := by decide +kernel
theorem dX4_laidBy_65 : decode cX4_laidBy 65 = .ok (.aload_n 0, 1) := by decide +kernel
theorem dX4_laidBy_66 : decode cX4_laidBy 66 = .ok (.getfield 18, 3) := by decide +kernel
theorem dX4_laidBy_69 : decode cX4_laidBy 69 = .ok (.getfield 68, 3) := by decide +kernel
theorem dX4_laidBy_72 : decode cX4_laidBy 72 = .ok (.getfield 115, 3) := by decide +kernel
theorem dX4_laidBy_75 : decode cX4_laidBy 75 = .ok (.if_icmp .ge 29, 3) := by decide +kernel
theorem dX4_laidBy_78 : decode cX4_laidBy 78 = .ok (.aload_n 0, 1) := by decide +kernel
theorem dX4_laidBy_79 : decode cX4_laidBy 79 = .ok (.aload_n 2, 1) := by decide +kernel
theorem dX4_laidBy_80 : decode cX4_laidBy 80 = .ok (.iload_n 3, 1) := by decide +kernel
theorem dX4_laidBy_81 : decode cX4_laidBy 81 = .ok (.aload_n 0, 1) := by decide +kernel
theorem dX4_laidBy_82 : decode cX4_laidBy 82 = .ok (.aload_n 0, 1) := by decide +kernel
theorem dX4_laidBy_83 : decode cX4_laidBy 83 = .ok (.getfield 18, 3) := by decide +kernel
theorem dX4_laidBy_86 : decode cX4_laidBy 86 = .ok (.getfield 107, 3) := by decide +kernel
theorem dX4_laidBy_89 : decode cX4_laidBy 89 = .ok (.iload_n 1, 1) := by decide +kernel
theorem dX4_laidBy_90 : decode cX4_laidBy 90 = .ok (.iaload, 1) := by decide +kernel
theorem dX4_laidBy_91 : decode cX4_laidBy 91 = .ok (.iload_n 3, 1) := by decide +kernel
theorem dX4_laidBy_92 : decode cX4_laidBy 92 = .ok (.invokevirtual 118, 3) := by decide +kernel
theorem dX4_laidBy_95 : decode cX4_laidBy 95 = .ok (.invokevirtual 122, 3) := by decide +kernel
theorem dX4_laidBy_98 : decode cX4_laidBy 98 = .ok (.iinc 3 1, 3) := by decide +kernel
theorem dX4_laidBy_101 : decode cX4_laidBy 101 = .ok (.goto (-37), 3) := by decide +kernel
theorem dX4_laidBy_104 : decode cX4_laidBy 104 = .ok (.aload_n 2, 1) := by decide +kernel
theorem dX4_laidBy_105 : decode cX4_laidBy 105 = .ok (.areturn, 1) := by decide +kernel
theorem dX4_readyTable_0 : decode cX4_readyTable 0 = .ok (.aload_n 0, 1) := by decide +kernel
theorem dX4_readyTable_1 : decode cX4_readyTable 1 = .ok (.getfield 46, 3) := by decide +kernel
theorem dX4_readyTable_4 : decode cX4_readyTable 4 = .ok (.aload_n 0, 1) := by decide +kernel
theorem dX4_readyTable_5 : decode cX4_readyTable 5 = .ok (.getfield 18, 3) := by decide +kernel
theorem dX4_readyTable_8 : decode cX4_readyTable 8 = .ok (.getfield 68, 3) := by decide +kernel
theorem dX4_readyTable_11 : decode cX4_readyTable 11 = .ok (.aload_n 0, 1) := by decide +kernel
theorem dX4_readyTable_12 : decode cX4_readyTable 12 = .ok (.getfield 9, 3) := by decide +kernel
theorem dX4_readyTable_15 : decode cX4_readyTable 15 = .ok (.aload_n 0, 1) := by decide +kernel
theorem dX4_readyTable_16 : decode cX4_readyTable 16 = .ok (.getfield 25, 3) := by decide +kernel
theorem dX4_readyTable_19 : decode cX4_readyTable 19 = .ok (.invokevirtual 110, 3) := by decide +kernel
theorem dX4_readyTable_22 : decode cX4_readyTable 22 = .ok (.return_, 1) := by decide +kernel
theorem dX7_init_0 : decode cX7_init 0 = .ok (.aload_n 0, 1) := by decide +kernel
theorem dX7_init_1 : decode cX7_init 1 = .ok (.invokespecial 3, 3) := by decide +kernel
theorem dX7_init_4 : decode cX7_init 4 = .ok (.aload_n 0, 1) := by decide +kernel
theorem dX7_init_5 : decode cX7_init 5 = .ok (.iconst 0, 1) := by decide +kernel
theorem dX7_init_6 : decode cX7_init 6 = .ok (.newarray .byte, 2) := by decide +kernel
theorem dX7_init_8 : decode cX7_init 8 = .ok (.putfield 9, 3) := by decide +kernel
theorem dX7_init_11 : decode cX7_init 11 = .ok (.aload_n 0, 1) := by decide +kernel
theorem dX7_init_12 : decode cX7_init 12 = .ok (.new 15, 3) := by decide +kernel
theorem dX7_init_15 : decode cX7_init 15 = .ok (.dup, 1) := by decide +kernel
theorem dX7_init_16 : decode cX7_init 16 = .ok (.invokespecial 17, 3) := by decide +kernel
theorem dX7_init_19 : decode cX7_init 19 = .ok (.putfield 18, 3) := by decide +kernel
theorem dX7_init_22 : decode cX7_init 22 = .ok (.aload_n 0, 1) := by decide +kernel
theorem dX7_init_23 : decode cX7_init 23 = .ok (.iconst 4, 1) := by decide +kernel
theorem dX7_init_24 : decode cX7_init 24 = .ok (.newarray .int, 2) := by decide +kernel
theorem dX7_init_26 : decode cX7_init 26 = .ok (.putfield 22, 3) := by decide +kernel
theorem dX7_init_29 : decode cX7_init 29 = .ok (.aload_n 0, 1) := by decide +kernel
theorem dX7_init_30 : decode cX7_init 30 = .ok (.iconst 4, 1) := by decide +kernel
theorem dX7_init_31 : decode cX7_init 31 = .ok (.newarray .int, 2) := by decide +kernel
theorem dX7_init_33 : decode cX7_init 33 = .ok (.putfield 26, 3) := by decide +kernel
theorem dX7_init_36 : decode cX7_init 36 = .ok (.aload_n 0, 1) := by decide +kernel
theorem dX7_init_37 : decode cX7_init 37 = .ok (.iconst 5, 1) := by decide +kernel
theorem dX7_init_38 : decode cX7_init 38 = .ok (.newarray .int, 2) := by decide +kernel
theorem dX7_init_40 : decode cX7_init 40 = .ok (.putfield 29, 3) := by decide +kernel
theorem dX7_init_43 : decode cX7_init 43 = .ok (.return_, 1) := by decide +kernel
theorem dX10_init_0 : decode cX10_init 0 = .ok (.aload_n 0, 1) := by decide +kernel
theorem dX10_init_1 : decode cX10_init 1 = .ok (.invokespecial 1, 3) := by decide +kernel
theorem dX10_init_4 : decode cX10_init 4 = .ok (.aload_n 0, 1) := by decide +kernel
theorem dX10_init_5 : decode cX10_init 5 = .ok (.sipush 900, 3) := by decide +kernel
theorem dX10_init_8 : decode cX10_init 8 = .ok (.newarray .byte, 2) := by decide +kernel
theorem dX10_init_10 : decode cX10_init 10 = .ok (.putfield 9, 3) := by decide +kernel
theorem dX10_init_13 : decode cX10_init 13 = .ok (.aload_n 0, 1) := by decide +kernel
theorem dX10_init_14 : decode cX10_init 14 = .ok (.new 13, 3) := by decide +kernel
theorem dX10_init_17 : decode cX10_init 17 = .ok (.dup, 1) := by decide +kernel
theorem dX10_init_18 : decode cX10_init 18 = .ok (.invokespecial 15, 3) := by decide +kernel
theorem dX10_init_21 : decode cX10_init 21 = .ok (.putfield 16, 3) := by decide +kernel
theorem dX10_init_24 : decode cX10_init 24 = .ok (.aload_n 0, 1) := by decide +kernel
theorem dX10_init_25 : decode cX10_init 25 = .ok (.new 20, 3) := by decide +kernel
theorem dX10_init_28 : decode cX10_init 28 = .ok (.dup, 1) := by decide +kernel
theorem dX10_init_29 : decode cX10_init 29 = .ok (.invokespecial 22, 3) := by decide +kernel
theorem dX10_init_32 : decode cX10_init 32 = .ok (.putfield 23, 3) := by decide +kernel
theorem dX10_init_35 : decode cX10_init 35 = .ok (.aload_n 0, 1) := by decide +kernel
theorem dX10_init_36 : decode cX10_init 36 = .ok (.new 20, 3) := by decide +kernel
theorem dX10_init_39 : decode cX10_init 39 = .ok (.dup, 1) := by decide +kernel
theorem dX10_init_40 : decode cX10_init 40 = .ok (.invokespecial 22, 3) := by decide +kernel
theorem dX10_init_43 : decode cX10_init 43 = .ok (.putfield 27, 3) := by decide +kernel
theorem dX10_init_46 : decode cX10_init 46 = .ok (.aload_n 0, 1) := by decide +kernel
theorem dX10_init_47 : decode cX10_init 47 = .ok (.new 30, 3) := by decide +kernel
theorem dX10_init_50 : decode cX10_init 50 = .ok (.dup, 1) := by decide +kernel
theorem dX10_init_51 : decode cX10_init 51 = .ok (.invokespecial 32, 3) := by decide +kernel
theorem dX10_init_54 : decode cX10_init 54 = .ok (.putfield 33, 3) := by decide +kernel
theorem dX10_init_57 : decode cX10_init 57 = .ok (.aload_n 0, 1) := by decide +kernel
theorem dX10_init_58 : decode cX10_init 58 = .ok (.iconst 3, 1) := by decide +kernel
theorem dX10_init_59 : decode cX10_init 59 = .ok (.anewarray 37, 3) := by decide +kernel
theorem dX10_init_62 : decode cX10_init 62 = .ok (.dup, 1) := by decide +kernel
theorem dX10_init_63 : decode cX10_init 63 = .ok (.iconst 0, 1) := by decide +kernel
theorem dX10_init_64 : decode cX10_init 64 = .ok (.new 37, 3) := by decide +kernel
theorem dX10_init_67 : decode cX10_init 67 = .ok (.dup, 1) := by decide +kernel
theorem dX10_init_68 : decode cX10_init 68 = .ok (.invokespecial 39, 3) := by decide +kernel
theorem dX10_init_71 : decode cX10_init 71 = .ok (.aastore, 1) := by decide +kernel
theorem dX10_init_72 : decode cX10_init 72 = .ok (.dup, 1) := by decide +kernel
theorem dX10_init_73 : decode cX10_init 73 = .ok (.iconst 1, 1) := by decide +kernel
theorem dX10_init_74 : decode cX10_init 74 = .ok (.new 37, 3) := by decide +kernel
theorem dX10_init_77 : decode cX10_init 77 = .ok (.dup, 1) := by decide +kernel
theorem dX10_init_78 : decode cX10_init 78 = .ok (.invokespecial 39, 3) := by decide +kernel
theorem dX10_init_81 : decode cX10_init 81 = .ok (.aastore, 1) := by decide +kernel
theorem dX10_init_82 : decode cX10_init 82 = .ok (.dup, 1) := by decide +kernel
theorem dX10_init_83 : decode cX10_init 83 = .ok (.iconst 2, 1) := by decide +kernel
theorem dX10_init_84 : decode cX10_init 84 = .ok (.new 37, 3) := by decide +kernel
theorem dX10_init_87 : decode cX10_init 87 = .ok (.dup, 1) := by decide +kernel
theorem dX10_init_88 : decode cX10_init 88 = .ok (.invokespecial 39, 3) := by decide +kernel
theorem dX10_init_91 : decode cX10_init 91 = .ok (.aastore, 1) := by decide +kernel
theorem dX10_init_92 : decode cX10_init 92 = .ok (.putfield 40, 3) := by decide +kernel
theorem dX10_init_95 : decode cX10_init 95 = .ok (.aload_n 0, 1) := by decide +kernel
theorem dX10_init_96 : decode cX10_init 96 = .ok (.iconst 5, 1) := by decide +kernel
theorem dX10_init_97 : decode cX10_init 97 = .ok (.newarray .int, 2) := by decide +kernel
theorem dX10_init_99 : decode cX10_init 99 = .ok (.putfield 44, 3) := by decide +kernel
theorem dX10_init_102 : decode cX10_init 102 = .ok (.return_, 1) := by decide +kernel
theorem dX10_lays_0 : decode cX10_lays 0 = .ok (.aload_n 0, 1) := by decide +kernel
theorem dX10_lays_1 : decode cX10_lays 1 = .ok (.iload_n 1, 1) := by decide +kernel
theorem dX10_lays_2 : decode cX10_lays 2 = .ok (.invokevirtual 157, 3) := by decide +kernel
theorem dX10_lays_5 : decode cX10_lays 5 = .ok (.ifCond .ne 11, 3) := by decide +kernel
theorem dX10_lays_8 : decode cX10_lays 8 = .ok (.aload_n 0, 1) := by decide +kernel
theorem dX10_lays_9 : decode cX10_lays 9 = .ok (.iload_n 2, 1) := by decide +kernel
theorem dX10_lays_10 : decode cX10_lays 10 = .ok (.invokevirtual 106, 3) := by decide +kernel
theorem dX10_lays_13 : decode cX10_lays 13 = .ok (.ifCond .eq 9, 3) := by decide +kernel
theorem dX10_lays_16 : decode cX10_lays 16 = .ok (.aload_n 0, 1) := by decide +kernel
theorem dX10_lays_17 : decode cX10_lays 17 = .ok (.iconst 1, 1) := by decide +kernel
theorem dX10_lays_18 : decode cX10_lays 18 = .ok (.invokevirtual 56, 3) := by decide +kernel
theorem dX10_lays_21 : decode cX10_lays 21 = .ok (.ireturn, 1) := by decide +kernel
theorem dX10_lays_22 : decode cX10_lays 22 = .ok (.aload_n 0, 1) := by decide +kernel
theorem dX10_lays_23 : decode cX10_lays 23 = .ok (.aload_n 0, 1) := by decide +kernel
theorem dX10_lays_24 : decode cX10_lays 24 = .ok (.getfield 33, 3) := by decide +kernel
theorem dX10_lays_27 : decode cX10_lays 27 = .ok (.iload_n 1, 1) := by decide +kernel
theorem dX10_lays_28 : decode cX10_lays 28 = .ok (.invokevirtual 160, 3) := by decide +kernel
theorem dX10_lays_31 : decode cX10_lays 31 = .ok (.getfield 164, 3) := by decide +kernel
theorem dX10_lays_34 : decode cX10_lays 34 = .ok (.iload_n 2, 1) := by decide +kernel
theorem dX10_lays_35 : decode cX10_lays 35 = .ok (.iaload, 1) := by decide +kernel
theorem dX10_lays_36 : decode cX10_lays 36 = .ok (.invokevirtual 84, 3) := by decide +kernel
theorem dX10_lays_39 : decode cX10_lays 39 = .ok (.ireturn, 1) := by decide +kernel
set_option maxHeartbeats 4000000 in
set_option maxRecDepth 100000 in
theorem sX6_solve {l : Launch} {D : va_G} {cA : Nat → ClassId} {base : Nat} {sA : Nat → Nat} {r0 : Nat} {r1 : Nat} {r2 : Nat} {r3 : Nat} {h hE : Zh} (hf : fX6_solve r0 r1 r2 r3 h = some hE) : zCA l yX6_solve cX6_solve 5 none 5 123 D cA base sA [.ref (base + r0), .ref (base + r1), .ref (base + r2), .ref (base + r3)] h none hE := by
  refine a_entry RX6 (by decide) rfl (Nat.le_of_ble_eq_true rfl) ?_
  intro p e R s m args below meth c hRf hRl r hin X hr
  unfold fX6_solve at hf
  have hf := zlet_n (x := h) rfl hf
  show zGA p l e R s m args below meth c (MQ below (zQA D cA base h hE none) args s (zNC - zN h) (zNS - zS h) (zA base)) 5 D cA base h 0 [(0, .ref (base + r0)), (1, .ref (base + r1)), (2, .ref (base + r2)), (3, .ref (base + r3))] [] h
  refine a_aload_n X 0 dX6_solve_0 rfl ?_
  obtain ⟨hk1, hf⟩ := zite hf
  refine a_get X zf6 hk1 1 (by decide) w_f_RX6_46 rfl rfl dX6_solve_1 ?_
  refine a_if_eq X 8 dX6_solve_4 (by decide) (fun hq => ?_) (fun hq => ?_)
  · have hf := zpos hq hf
    refine a_aload_n X 0 dX6_solve_8 rfl ?_
    refine a_iconst X (v := 1) dX6_solve_9 (by decide) ?_
    refine a_putZ X zf6 hk1 (Or.inr rfl) 1 (by decide) w_f_RX6_46 rfl rfl rfl dX6_solve_10 ?_
    refine a_hp (fun h2 eh2 => ?_)
    have hf := zlet_n eh2 hf
    refine a_aload_n X 0 dX6_solve_13 rfl ?_
    refine a_aload_n X 1 dX6_solve_14 rfl ?_
    obtain ⟨hk3, hf⟩ := zite hf
    refine a_putR X zf6 hk3 3 (by decide) w_f_RX6_18 rfl rfl rfl dX6_solve_15 ?_
    refine a_hp (fun h4 eh4 => ?_)
    have hf := zlet_n eh4 hf
    refine a_aload_n X 0 dX6_solve_18 rfl ?_
    refine a_aload_n X 2 dX6_solve_19 rfl ?_
    obtain ⟨hk5, hf⟩ := zite hf
    refine a_putR X zf6 hk5 4 (by decide) w_f_RX6_22 rfl rfl rfl dX6_solve_20 ?_
    refine a_hp (fun h6 eh6 => ?_)
    have hf := zlet_n eh6 hf
    refine a_aload_n X 0 dX6_solve_23 rfl ?_
    refine a_aload_n X 0 dX6_solve_24 rfl ?_
    obtain ⟨hk7, hf⟩ := zite hf
    obtain ⟨r_8, hr_8, hf⟩ := zbd hf
    refine a_get X zf6 hk7 3 (by decide) w_f_RX6_18 rfl (zfv_r hr_8 rfl) dX6_solve_25 ?_
    obtain ⟨hk9, hf⟩ := zite hf
    refine a_get X zf0 hk9 9 (by decide) w_f_RX6_50 rfl rfl dX6_solve_28 ?_
    refine a_sipush X (v := 300) dX6_solve_31 (by decide) ?_
    have hJ68 : ∀ (t0_68 : Int32) (t1_68 : Nat) (h_68 : Zh), jX6_solve_68 h r0 r3 t0_68 t1_68 h_68 = some hE → zGA p l e R s m args below meth c (MQ below (zQA D cA base h hE none) args s (zNC - zN h) (zNS - zS h) (zA base)) 5 D cA base h 68 [(0, .ref (base + r0)), (3, .ref (base + r3))] [.int t0_68, .ref (base + t1_68)] h_68 := by
      intro t0_68 t1_68 h_68 hf
      unfold jX6_solve_68 at hf
      obtain ⟨hk10, hf⟩ := zite hf
      obtain ⟨hb12, hf⟩ := zite hf
      refine a_putZ X zf6 hk10 hb12 2 (by decide) w_f_RX6_61 rfl rfl rfl dX6_solve_68 ?_
      refine a_hp (fun h11 eh11 => ?_)
      have hf := zlet_n eh11 hf
      refine a_aload_n X 0 dX6_solve_71 rfl ?_
      obtain ⟨hk13, hf⟩ := zite hf
      refine a_get X zf6 hk13 2 (by decide) w_f_RX6_61 rfl rfl dX6_solve_72 ?_
      refine a_if_ne X 79 dX6_solve_75 (by decide) (fun hq => ?_) (fun hq => ?_)
      · have hf := zneg hq hf
        refine a_aload_n X 0 dX6_solve_79 rfl ?_
        refine a_aload_n X 1 dX6_solve_80 rfl ?_
        obtain ⟨h14, hch14, hf⟩ := zbd hf
        refine a_callVA X r 1 (sX6_clear hch14) zf6 hk13 ydX6_clear w_ml_RX6_64 w_instanceMethod_X6_clear w_sel_X6_clear w_ini_RX6 w_code_X6_clear (by rw [hRf, hRl]; decide) rfl (st := []) rfl rfl (Nat.le_of_ble_eq_true rfl) dX6_solve_81 ?_
        refine a_iconst X (v := 0) dX6_solve_84 (by decide) ?_
        refine a_istore X [(4, .int ((0 : Int32))), (0, .ref (base + r0)), (3, .ref (base + r3))] dX6_solve_85 (by decide) rfl ?_
        refine a_sub [1, 0] rfl ?_
        obtain ⟨qq, hlp, hf⟩ := zbd hf
        refine lp_snd (body := (fun q : Int32 × Zh => bX6_solve_87 h r0 q.1 q.2)) (P := (fun q : Int32 × Zh => zGA p l e R s m args below meth c (MQ below (zQA D cA base h hE none) args s (zNC - zN h) (zNS - zS h) (zA base)) 5 D cA base h 87 [(0, .ref (base + r0)), (4, .int q.1)] [] q.2)) (E := (fun (en : Nat) (q : Int32 × Zh) => zGA p l e R s m args below meth c (MQ below (zQA D cA base h hE none) args s (zNC - zN h) (zNS - zS h) (zA base)) 5 D cA base h 132 [(0, .ref (base + r0))] [] q.2)) ?_ zB ((0 : Int32), h14) qq.1 qq.2 hlp ?_
        · intro q e_87 q_87 hf hc0 hc1
          obtain ⟨x4_87, h_87⟩ := q
          have hf : bX6_solve_87 h r0 x4_87 h_87 = some (e_87, q_87) := hf
          unfold bX6_solve_87 at hf
          show zGA p l e R s m args below meth c (MQ below (zQA D cA base h hE none) args s (zNC - zN h) (zNS - zS h) (zA base)) 5 D cA base h 87 [(0, .ref (base + r0)), (4, .int x4_87)] [] h_87
          refine a_iload X 1 dX6_solve_87 rfl ?_
          refine a_aload_n X 0 dX6_solve_89 rfl ?_
          obtain ⟨hk15, hf⟩ := zite hf
          obtain ⟨r_16, hr_16, hf⟩ := zbd hf
          refine a_get X zf6 hk15 3 (by decide) w_f_RX6_18 rfl (zfv_r hr_16 rfl) dX6_solve_90 ?_
          obtain ⟨hk17, hf⟩ := zite hf
          refine a_get X zf0 hk17 9 (by decide) w_f_RX6_50 rfl rfl dX6_solve_93 ?_
          refine a_icmp_ge X 132 dX6_solve_96 (by decide) (fun hq => ?_) (fun hq => ?_)
          · have hf := zpos hq hf
            cases hf
            have hc1 := hc1 (by decide)
            exact a_sub [0] rfl hc1
          · have hf := zneg hq hf
            refine a_aload_n X 0 dX6_solve_99 rfl ?_
            refine a_get X zf6 hk15 2 (by decide) w_f_RX6_61 rfl rfl dX6_solve_100 ?_
            refine a_if_eq X 132 dX6_solve_103 (by decide) (fun hq => ?_) (fun hq => ?_)
            · have hf := zpos hq hf
              cases hf
              have hc1 := hc1 (by decide)
              exact a_sub [0] rfl hc1
            · have hf := zneg hq hf
              refine a_aload_n X 0 dX6_solve_106 rfl ?_
              refine a_dup X dX6_solve_107 rfl ?_
              refine a_get X zf6 hk15 14 (by decide) w_f_RX6_68 rfl rfl dX6_solve_108 ?_
              refine a_iconst X (v := 1) dX6_solve_111 (by decide) ?_
              refine a_iadd X dX6_solve_112 ?_
              refine a_putI X zf6 hk15 14 (by decide) w_f_RX6_68 rfl rfl rfl dX6_solve_113 ?_
              refine a_hp (fun h18 eh18 => ?_)
              have hf := zlet_n eh18 hf
              refine a_aload_n X 0 dX6_solve_116 rfl ?_
              refine a_aload_n X 0 dX6_solve_117 rfl ?_
              refine a_iload X 1 dX6_solve_118 rfl ?_
              obtain ⟨hk19, hf⟩ := zite hf
              obtain ⟨v21, h20, hch20, hf⟩ := zc2_e hf
              refine a_callV X r 1 (sX6_rehome hch20) zf6 hk19 ydX6_rehome w_ml_RX6_71 w_instanceMethod_X6_rehome w_sel_X6_rehome w_ini_RX6 w_code_X6_rehome (by rw [hRf, hRl]; decide) rfl (st := [.ref (base + r0)]) rfl rfl (Nat.le_of_ble_eq_true rfl) dX6_solve_120 ?_
              obtain ⟨hk22, hf⟩ := zite hf
              obtain ⟨hb24, hf⟩ := zite hf
              refine a_putZ X zf6 hk22 hb24 2 (by decide) w_f_RX6_61 rfl rfl rfl dX6_solve_123 ?_
              refine a_hp (fun h23 eh23 => ?_)
              have hf := zlet_n eh23 hf
              obtain ⟨y25, ey25⟩ : ∃ y : Int32, y = x4_87 + (1 : Int32) := ⟨_, rfl⟩
              have hf := zlet_n ey25 hf
              refine a_iinc X (j := 1) [(4, .int y25), (0, .ref (base + r0))] dX6_solve_126 rfl (by rw [ey25]; rfl) (by decide) rfl ?_
              refine a_goto X 87 dX6_solve_129 (by decide) ?_
              cases hf
              exact a_sub [1, 0] rfl (hc0 rfl)
        · obtain ⟨ee, x4_k87, h_k87⟩ := qq
          have hf : kX6_solve_87 h r0 ee x4_k87 h_k87 = some hE := hf
          unfold kX6_solve_87 at hf
          show zGA p l e R s m args below meth c (MQ below (zQA D cA base h hE none) args s (zNC - zN h) (zNS - zS h) (zA base)) 5 D cA base h 132 [(0, .ref (base + r0))] [] h_k87
          refine a_iconst X (v := 0) dX6_solve_132 (by decide) ?_
          refine a_istore X [(4, .int ((0 : Int32))), (0, .ref (base + r0))] dX6_solve_133 (by decide) rfl ?_
          refine a_sub [1, 0] rfl ?_
          obtain ⟨qq, hlp, hf⟩ := zbd hf
          refine lp_snd (body := (fun q : Int32 × Zh => bX6_solve_135 h r0 q.1 q.2)) (P := (fun q : Int32 × Zh => zGA p l e R s m args below meth c (MQ below (zQA D cA base h hE none) args s (zNC - zN h) (zNS - zS h) (zA base)) 5 D cA base h 135 [(0, .ref (base + r0)), (4, .int q.1)] [] q.2)) (E := (fun (en : Nat) (q : Int32 × Zh) => zGA p l e R s m args below meth c (MQ below (zQA D cA base h hE none) args s (zNC - zN h) (zNS - zS h) (zA base)) 5 D cA base h 166 [] [] q.2)) ?_ zB ((0 : Int32), h_k87) qq.1 qq.2 hlp ?_
          · intro q e_135 q_135 hf hc0 hc1
            obtain ⟨x4_135, h_135⟩ := q
            have hf : bX6_solve_135 h r0 x4_135 h_135 = some (e_135, q_135) := hf
            unfold bX6_solve_135 at hf
            show zGA p l e R s m args below meth c (MQ below (zQA D cA base h hE none) args s (zNC - zN h) (zNS - zS h) (zA base)) 5 D cA base h 135 [(0, .ref (base + r0)), (4, .int x4_135)] [] h_135
            refine a_iload X 1 dX6_solve_135 rfl ?_
            refine a_aload_n X 0 dX6_solve_137 rfl ?_
            obtain ⟨hk26, hf⟩ := zite hf
            obtain ⟨r_27, hr_27, hf⟩ := zbd hf
            refine a_get X zf6 hk26 3 (by decide) w_f_RX6_18 rfl (zfv_r hr_27 rfl) dX6_solve_138 ?_
            obtain ⟨hk28, hf⟩ := zite hf
            refine a_get X zf0 hk28 9 (by decide) w_f_RX6_50 rfl rfl dX6_solve_141 ?_
            refine a_icmp_ge X 166 dX6_solve_144 (by decide) (fun hq => ?_) (fun hq => ?_)
            · have hf := zpos hq hf
              cases hf
              have hc1 := hc1 (by decide)
              exact a_sub [] rfl hc1
            · have hf := zneg hq hf
              refine a_aload_n X 0 dX6_solve_147 rfl ?_
              refine a_get X zf6 hk26 2 (by decide) w_f_RX6_61 rfl rfl dX6_solve_148 ?_
              refine a_if_eq X 166 dX6_solve_151 (by decide) (fun hq => ?_) (fun hq => ?_)
              · have hf := zpos hq hf
                cases hf
                have hc1 := hc1 (by decide)
                exact a_sub [] rfl hc1
              · have hf := zneg hq hf
                refine a_aload_n X 0 dX6_solve_154 rfl ?_
                refine a_iload X 1 dX6_solve_155 rfl ?_
                obtain ⟨h29, hch29, hf⟩ := zbd hf
                refine a_callV X r 1 (sX6_settleLeast hch29) zf6 hk26 ydX6_settleLeast w_ml_RX6_75 w_instanceMethod_X6_settleLeast w_sel_X6_settleLeast w_ini_RX6 w_code_X6_settleLeast (by rw [hRf, hRl]; decide) rfl (st := []) rfl rfl (Nat.le_of_ble_eq_true rfl) dX6_solve_157 ?_
                obtain ⟨y30, ey30⟩ : ∃ y : Int32, y = x4_135 + (1 : Int32) := ⟨_, rfl⟩
                have hf := zlet_n ey30 hf
                refine a_iinc X (j := 1) [(4, .int y30), (0, .ref (base + r0))] dX6_solve_160 rfl (by rw [ey30]; rfl) (by decide) rfl ?_
                refine a_goto X 135 dX6_solve_163 (by decide) ?_
                cases hf
                exact a_sub [1, 0] rfl (hc0 rfl)
          · obtain ⟨ee, x4_k135, h_k135⟩ := qq
            have hf : kX6_solve_135 h ee x4_k135 h_k135 = some hE := hf
            unfold kX6_solve_135 at hf
            show zGA p l e R s m args below meth c (MQ below (zQA D cA base h hE none) args s (zNC - zN h) (zNS - zS h) (zA base)) 5 D cA base h 166 [] [] h_k135
            cases hf
            exact a_vret X hr dX6_solve_166
      · have hf := zpos hq hf
        cases hf
        exact a_vret X hr dX6_solve_78
    have hJ67 : ∀ (t0_67 : Nat) (h_67 : Zh), jX6_solve_67 h r0 r3 t0_67 h_67 = some hE → zGA p l e R s m args below meth c (MQ below (zQA D cA base h hE none) args s (zNC - zN h) (zNS - zS h) (zA base)) 5 D cA base h 67 [(0, .ref (base + r0)), (3, .ref (base + r3))] [.ref (base + t0_67)] h_67 := by
      intro t0_67 h_67 hf
      unfold jX6_solve_67 at hf
      refine a_iconst X (v := 0) dX6_solve_67 (by decide) ?_
      refine a_sub [0, 1] rfl ?_
      exact hJ68 _ _ _ hf
    refine a_icmp_gt X 67 dX6_solve_34 (by decide) (fun hq => ?_) (fun hq => ?_)
    · have hf := zpos hq hf
      refine a_sub [0, 3] rfl ?_
      exact hJ67 _ _ hf
    · have hf := zneg hq hf
      refine a_aload_n X 0 dX6_solve_37 rfl ?_
      obtain ⟨r_31, hr_31, hf⟩ := zbd hf
      refine a_get X zf6 hk7 3 (by decide) w_f_RX6_18 rfl (zfv_r hr_31 rfl) dX6_solve_38 ?_
      obtain ⟨hk32, hf⟩ := zite hf
      refine a_get X zf0 hk32 9 (by decide) w_f_RX6_50 rfl rfl dX6_solve_41 ?_
      refine a_i2l X dX6_solve_44 ?_
      refine a_aload_n X 0 dX6_solve_45 rfl ?_
      obtain ⟨r_33, hr_33, hf⟩ := zbd hf
      refine a_get X zf6 hk7 3 (by decide) w_f_RX6_18 rfl (zfv_r hr_33 rfl) dX6_solve_46 ?_
      refine a_aload_n X 0 dX6_solve_49 rfl ?_
      obtain ⟨r_34, hr_34, hf⟩ := zbd hf
      refine a_get X zf6 hk7 3 (by decide) w_f_RX6_18 rfl (zfv_r hr_34 rfl) dX6_solve_50 ?_
      obtain ⟨hk35, hf⟩ := zite hf
      refine a_get X zf0 hk35 0 (by decide) w_f_RX6_54 rfl rfl dX6_solve_53 ?_
      obtain ⟨hk36, hf⟩ := zite hf
      obtain ⟨v38, h37, hch37, hf⟩ := zc2_e hf
      refine a_callV X r 1 (sX0_rowsOf hch37) zf0 hk36 ydX0_rowsOf w_ml_RX6_57 w_instanceMethod_X0_rowsOf w_sel_X0_rowsOf w_ini_RX0 w_code_X0_rowsOf (by rw [hRf, hRl]; decide) rfl (st := [.long ((zI h6 r_31 9).toInt64), .ref (base + r0)]) rfl rfl (Nat.le_of_ble_eq_true rfl) dX6_solve_56 ?_
      refine a_lcmp X dX6_solve_59 ?_
      refine a_if_gt X 67 dX6_solve_60 (by decide) (fun hq => ?_) (fun hq => ?_)
      · have hf := zpos hq hf
        refine a_sub [0, 3] rfl ?_
        exact hJ67 _ _ hf
      · have hf := zneg hq hf
        refine a_iconst X (v := 1) dX6_solve_63 (by decide) ?_
        refine a_goto X 68 dX6_solve_64 (by decide) ?_
        refine a_sub [0, 3] rfl ?_
        exact hJ68 _ _ _ hf
  · have hf := zneg hq hf
    cases hf
    exact a_vret X hr dX6_solve_7

set_option maxHeartbeats 4000000 in
set_option maxRecDepth 100000 in
theorem sX4_laidBy {l : Launch} {D : va_G} {cA : Nat → ClassId} {base : Nat} {sA : Nat → Nat} {r0 : Nat} {x1 : Int32} {h hE : Zh} {rE : Nat} (hf : fX4_laidBy r0 x1 h = some (rE, hE)) : zCA l yX4_laidBy cX4_laidBy 4 (some (.object "FifthCard$Laid")) 6 147 D cA base sA [.ref (base + r0), .int x1] h (some (.ref (base + rE))) hE := by
  refine a_entry RX4 (by decide) rfl (Nat.le_of_ble_eq_true rfl) ?_
  intro p e R s m args below meth c hRf hRl r hin X hr
  unfold fX4_laidBy at hf
  have hf := zlet_n (x := h) rfl hf
  show zGA p l e R s m args below meth c (MQ below (zQA D cA base h hE (some (.ref (base + rE)))) args s (zNC - zN h) (zNS - zS h) (zA base)) 4 D cA base h 0 [(0, .ref (base + r0)), (1, .int x1)] [] h
  refine a_aload_n X 0 dX4_laidBy_0 rfl ?_
  obtain ⟨hk1, hf⟩ := zite hf
  obtain ⟨r_2, hr_2, hf⟩ := zbd hf
  refine a_get X zf4 hk1 6 (by decide) w_f_RX4_55 rfl (zfv_r hr_2 rfl) dX4_laidBy_1 ?_
  refine a_iload_n X 1 dX4_laidBy_4 rfl ?_
  obtain ⟨hk3, hf⟩ := zite hf
  obtain ⟨hi4, hf⟩ := zite hf
  obtain ⟨r_5, hr_5, hf⟩ := zbd hf
  refine a_aald4 X hk3 hi4 hr_5 dX4_laidBy_5 ?_
  refine a_astore_n X [(2, .ref (base + r_5)), (0, .ref (base + r0)), (1, .int x1)] dX4_laidBy_6 (by decide) rfl ?_
  refine a_aload_n X 0 dX4_laidBy_7 rfl ?_
  obtain ⟨hk6, hf⟩ := zite hf
  refine a_get X zf2 hk6 2 (by decide) w_f_RX4_104 rfl rfl dX4_laidBy_8 ?_
  refine a_if_ne X 104 dX4_laidBy_11 (by decide) (fun hq => ?_) (fun hq => ?_)
  · have hf := zneg hq hf
    refine a_aload_n X 0 dX4_laidBy_104 rfl ?_
    obtain ⟨rfl, rfl⟩ := zsm hf
    exact a_aret X hr (Or.inl ⟨_, rfl⟩) dX4_laidBy_105
  · have hf := zpos hq hf
    refine a_aload_n X 0 dX4_laidBy_14 rfl ?_
    refine a_iconst X (v := 1) dX4_laidBy_15 (by decide) ?_
    refine a_putZ X zf2 hk6 (Or.inr rfl) 2 (by decide) w_f_RX4_104 rfl rfl rfl dX4_laidBy_16 ?_
    refine a_hp (fun h7 eh7 => ?_)
    have hf := zlet_n eh7 hf
    refine a_aload_n X 1 dX4_laidBy_19 rfl ?_
    obtain ⟨hk8, hf⟩ := zite hf
    obtain ⟨r_9, hr_9, hf⟩ := zbd hf
    refine a_get X zf4 hk8 1 (by decide) w_f_RX4_18 rfl (zfv_r hr_9 rfl) dX4_laidBy_20 ?_
    obtain ⟨hk10, hf⟩ := zite hf
    obtain ⟨r_11, hr_11, hf⟩ := zbd hf
    refine a_get X zf9 hk10 2 (by decide) w_f_RX4_107 rfl (zfv_r hr_11 rfl) dX4_laidBy_23 ?_
    refine a_iload_n X 2 dX4_laidBy_26 rfl ?_
    obtain ⟨hk12, hf⟩ := zite hf
    obtain ⟨hi13, hf⟩ := zite hf
    refine a_iald X hk12 hi13 dX4_laidBy_27 ?_
    refine a_bipush X (v := 21) dX4_laidBy_28 (by decide) ?_
    have hJ55 : ∀ (r2_55 : Nat) (h_55 : Zh), jX4_laidBy_55 h r0 x1 r2_55 h_55 = some (rE, hE) → zGA p l e R s m args below meth c (MQ below (zQA D cA base h hE (some (.ref (base + rE)))) args s (zNC - zN h) (zNS - zS h) (zA base)) 4 D cA base h 55 [(0, .ref (base + r0)), (1, .int x1), (2, .ref (base + r2_55))] [] h_55 := by
      intro r2_55 h_55 hf
      unfold jX4_laidBy_55 at hf
      refine a_aload_n X 0 dX4_laidBy_55 rfl ?_
      obtain ⟨hk14, hf⟩ := zite hf
      obtain ⟨r_15, hr_15, hf⟩ := zbd hf
      refine a_get X zf4 hk14 4 (by decide) w_f_RX4_39 rfl (zfv_r hr_15 rfl) dX4_laidBy_56 ?_
      obtain ⟨hk16, hf⟩ := zite hf
      obtain ⟨h17, hch17, hf⟩ := zbd hf
      refine a_callV X r 0 (sX8_clear hch17) zf8 hk16 ydX8_clear w_ml_RX4_114 w_instanceMethod_X8_clear w_sel_X8_clear w_ini_RX8 w_code_X8_clear (by rw [hRf, hRl]; decide) rfl (st := []) rfl rfl (Nat.le_of_ble_eq_true rfl) dX4_laidBy_59 ?_
      refine a_iconst X (v := 0) dX4_laidBy_62 (by decide) ?_
      refine a_istore_n X [(3, .int ((0 : Int32))), (0, .ref (base + r0)), (1, .int x1), (2, .ref (base + r2_55))] dX4_laidBy_63 (by decide) rfl ?_
      refine a_sub [1, 2, 3, 0] rfl ?_
      obtain ⟨qq, hlp, hf⟩ := zbd hf
      refine lp_snd (body := (fun q : Int32 × Zh => bX4_laidBy_64 h r0 x1 r2_55 q.1 q.2)) (P := (fun q : Int32 × Zh => zGA p l e R s m args below meth c (MQ below (zQA D cA base h hE (some (.ref (base + rE)))) args s (zNC - zN h) (zNS - zS h) (zA base)) 4 D cA base h 64 [(0, .ref (base + r0)), (1, .int x1), (2, .ref (base + r2_55)), (3, .int q.1)] [] q.2)) (E := (fun (en : Nat) (q : Int32 × Zh) => zGA p l e R s m args below meth c (MQ below (zQA D cA base h hE (some (.ref (base + rE)))) args s (zNC - zN h) (zNS - zS h) (zA base)) 4 D cA base h 104 [(2, .ref (base + r2_55))] [] q.2)) ?_ zB ((0 : Int32), h17) qq.1 qq.2 hlp ?_
      · intro q e_64 q_64 hf hc0 hc1
        obtain ⟨x3_64, h_64⟩ := q
        have hf : bX4_laidBy_64 h r0 x1 r2_55 x3_64 h_64 = some (e_64, q_64) := hf
        unfold bX4_laidBy_64 at hf
        show zGA p l e R s m args below meth c (MQ below (zQA D cA base h hE (some (.ref (base + rE)))) args s (zNC - zN h) (zNS - zS h) (zA base)) 4 D cA base h 64 [(0, .ref (base + r0)), (1, .int x1), (2, .ref (base + r2_55)), (3, .int x3_64)] [] h_64
        refine a_iload_n X 3 dX4_laidBy_64 rfl ?_
        refine a_aload_n X 0 dX4_laidBy_65 rfl ?_
        obtain ⟨hk18, hf⟩ := zite hf
        obtain ⟨r_19, hr_19, hf⟩ := zbd hf
        refine a_get X zf4 hk18 1 (by decide) w_f_RX4_18 rfl (zfv_r hr_19 rfl) dX4_laidBy_66 ?_
        obtain ⟨hk20, hf⟩ := zite hf
        obtain ⟨r_21, hr_21, hf⟩ := zbd hf
        refine a_get X zf9 hk20 1 (by decide) w_f_RX4_68 rfl (zfv_r hr_21 rfl) dX4_laidBy_69 ?_
        obtain ⟨hk22, hf⟩ := zite hf
        refine a_get X zf0 hk22 9 (by decide) w_f_RX4_115 rfl rfl dX4_laidBy_72 ?_
        refine a_icmp_ge X 104 dX4_laidBy_75 (by decide) (fun hq => ?_) (fun hq => ?_)
        · have hf := zpos hq hf
          cases hf
          have hc1 := hc1 (by decide)
          exact a_sub [2] rfl hc1
        · have hf := zneg hq hf
          refine a_aload_n X 0 dX4_laidBy_78 rfl ?_
          refine a_aload_n X 2 dX4_laidBy_79 rfl ?_
          refine a_iload_n X 3 dX4_laidBy_80 rfl ?_
          refine a_aload_n X 0 dX4_laidBy_81 rfl ?_
          refine a_aload_n X 0 dX4_laidBy_82 rfl ?_
          obtain ⟨r_23, hr_23, hf⟩ := zbd hf
          refine a_get X zf4 hk18 1 (by decide) w_f_RX4_18 rfl (zfv_r hr_23 rfl) dX4_laidBy_83 ?_
          obtain ⟨hk24, hf⟩ := zite hf
          obtain ⟨r_25, hr_25, hf⟩ := zbd hf
          refine a_get X zf9 hk24 2 (by decide) w_f_RX4_107 rfl (zfv_r hr_25 rfl) dX4_laidBy_86 ?_
          refine a_iload_n X 1 dX4_laidBy_89 rfl ?_
          obtain ⟨hk26, hf⟩ := zite hf
          obtain ⟨hi27, hf⟩ := zite hf
          refine a_iald X hk26 hi27 dX4_laidBy_90 ?_
          refine a_iload_n X 3 dX4_laidBy_91 rfl ?_
          obtain ⟨v29, h28, hch28, hf⟩ := zc2_e hf
          refine a_callV X r 2 (sX4_rowFor hch28) zf4 hk18 ydX4_rowFor w_ml_RX4_118 w_instanceMethod_X4_rowFor w_sel_X4_rowFor w_ini_RX4 w_code_X4_rowFor (by rw [hRf, hRl]; decide) rfl (st := [.int x3_64, .ref (base + r2_55), .ref (base + r0)]) rfl rfl (Nat.le_of_ble_eq_true rfl) dX4_laidBy_92 ?_
          obtain ⟨hk30, hf⟩ := zite hf
          obtain ⟨h31, hch31, hf⟩ := zbd hf
          refine a_callV X r 3 (sX4_note hch31) zf4 hk30 ydX4_note w_ml_RX4_122 w_instanceMethod_X4_note w_sel_X4_note w_ini_RX4 w_code_X4_note (by rw [hRf, hRl]; decide) rfl (st := []) rfl rfl (Nat.le_of_ble_eq_true rfl) dX4_laidBy_95 ?_
          obtain ⟨y32, ey32⟩ : ∃ y : Int32, y = x3_64 + (1 : Int32) := ⟨_, rfl⟩
          have hf := zlet_n ey32 hf
          refine a_iinc X (j := 3) [(3, .int y32), (0, .ref (base + r0)), (1, .int x1), (2, .ref (base + r2_55))] dX4_laidBy_98 rfl (by rw [ey32]; rfl) (by decide) rfl ?_
          refine a_goto X 64 dX4_laidBy_101 (by decide) ?_
          cases hf
          exact a_sub [1, 2, 3, 0] rfl (hc0 rfl)
      · obtain ⟨ee, x3_k64, h_k64⟩ := qq
        have hf : kX4_laidBy_64 h r2_55 ee x3_k64 h_k64 = some (rE, hE) := hf
        unfold kX4_laidBy_64 at hf
        show zGA p l e R s m args below meth c (MQ below (zQA D cA base h hE (some (.ref (base + rE)))) args s (zNC - zN h) (zNS - zS h) (zA base)) 4 D cA base h 104 [(2, .ref (base + r2_55))] [] h_k64
        refine a_aload_n X 0 dX4_laidBy_104 rfl ?_
        obtain ⟨rfl, rfl⟩ := zsm hf
        exact a_aret X hr (Or.inl ⟨_, rfl⟩) dX4_laidBy_105
    refine a_icmp_ne X 55 dX4_laidBy_30 (by decide) (fun hq => ?_) (fun hq => ?_)
    · have hf := zneg hq hf
      refine a_sub [1, 2, 0] rfl ?_
      exact hJ55 _ _ hf
    · have hf := zpos hq hf
      refine a_aload_n X 1 dX4_laidBy_33 rfl ?_
      obtain ⟨r_33, hr_33, hf⟩ := zbd hf
      refine a_get X zf4 hk8 5 (by decide) w_f_RX4_46 rfl (zfv_r hr_33 rfl) dX4_laidBy_34 ?_
      refine a_aload_n X 1 dX4_laidBy_37 rfl ?_
      obtain ⟨r_34, hr_34, hf⟩ := zbd hf
      refine a_get X zf4 hk8 1 (by decide) w_f_RX4_18 rfl (zfv_r hr_34 rfl) dX4_laidBy_38 ?_
      obtain ⟨hk35, hf⟩ := zite hf
      obtain ⟨r_36, hr_36, hf⟩ := zbd hf
      refine a_get X zf9 hk35 1 (by decide) w_f_RX4_68 rfl (zfv_r hr_36 rfl) dX4_laidBy_41 ?_
      refine a_aload_n X 1 dX4_laidBy_44 rfl ?_
      obtain ⟨r_37, hr_37, hf⟩ := zbd hf
      refine a_get X zf4 hk8 0 (by decide) w_f_RX4_9 rfl (zfv_r hr_37 rfl) dX4_laidBy_45 ?_
      refine a_aload_n X 1 dX4_laidBy_48 rfl ?_
      obtain ⟨r_38, hr_38, hf⟩ := zbd hf
      refine a_get X zf4 hk8 2 (by decide) w_f_RX4_25 rfl (zfv_r hr_38 rfl) dX4_laidBy_49 ?_
      obtain ⟨hk39, hf⟩ := zite hf
      obtain ⟨h40, hch40, hf⟩ := zbd hf
      refine a_callVA X r 3 (sX6_solve hch40) zf6 hk39 ydX6_solve w_ml_RX4_110 w_instanceMethod_X6_solve w_sel_X6_solve w_ini_RX6 w_code_X6_solve (by rw [hRf, hRl]; decide) rfl (st := []) rfl rfl (Nat.le_of_ble_eq_true rfl) dX4_laidBy_52 ?_
      refine a_sub [1, 2, 0] rfl ?_
      exact hJ55 _ _ hf

set_option maxHeartbeats 4000000 in
set_option maxRecDepth 100000 in
theorem sX4_readyTable {l : Launch} {D : va_G} {cA : Nat → ClassId} {base : Nat} {sA : Nat → Nat} {r0 : Nat} {h hE : Zh} (hf : fX4_readyTable r0 h = some hE) : zCA l yX4_readyTable cX4_readyTable 1 none 6 147 D cA base sA [.ref (base + r0)] h none hE := by
  refine a_entry RX4 (by decide) rfl (Nat.le_of_ble_eq_true rfl) ?_
  intro p e R s m args below meth c hRf hRl r hin X hr
  unfold fX4_readyTable at hf
  have hf := zlet_n (x := h) rfl hf
  show zGA p l e R s m args below meth c (MQ below (zQA D cA base h hE none) args s (zNC - zN h) (zNS - zS h) (zA base)) 1 D cA base h 0 [(0, .ref (base + r0))] [] h
  refine a_aload_n X 0 dX4_readyTable_0 rfl ?_
  obtain ⟨hk1, hf⟩ := zite hf
  obtain ⟨r_2, hr_2, hf⟩ := zbd hf
  refine a_get X zf4 hk1 5 (by decide) w_f_RX4_46 rfl (zfv_r hr_2 rfl) dX4_readyTable_1 ?_
  refine a_aload_n X 0 dX4_readyTable_4 rfl ?_
  obtain ⟨r_3, hr_3, hf⟩ := zbd hf
  refine a_get X zf4 hk1 1 (by decide) w_f_RX4_18 rfl (zfv_r hr_3 rfl) dX4_readyTable_5 ?_
  obtain ⟨hk4, hf⟩ := zite hf
  obtain ⟨r_5, hr_5, hf⟩ := zbd hf
  refine a_get X zf9 hk4 1 (by decide) w_f_RX4_68 rfl (zfv_r hr_5 rfl) dX4_readyTable_8 ?_
  refine a_aload_n X 0 dX4_readyTable_11 rfl ?_
  obtain ⟨r_6, hr_6, hf⟩ := zbd hf
  refine a_get X zf4 hk1 0 (by decide) w_f_RX4_9 rfl (zfv_r hr_6 rfl) dX4_readyTable_12 ?_
  refine a_aload_n X 0 dX4_readyTable_15 rfl ?_
  obtain ⟨r_7, hr_7, hf⟩ := zbd hf
  refine a_get X zf4 hk1 2 (by decide) w_f_RX4_25 rfl (zfv_r hr_7 rfl) dX4_readyTable_16 ?_
  obtain ⟨hk8, hf⟩ := zite hf
  obtain ⟨h9, hch9, hf⟩ := zbd hf
  refine a_callVA X r 3 (sX6_solve hch9) zf6 hk8 ydX6_solve w_ml_RX4_110 w_instanceMethod_X6_solve w_sel_X6_solve w_ini_RX6 w_code_X6_solve (by rw [hRf, hRl]; decide) rfl (st := []) rfl rfl (Nat.le_of_ble_eq_true rfl) dX4_readyTable_19 ?_
  cases hf
  exact a_vret X hr dX4_readyTable_22

set_option maxHeartbeats 4000000 in
set_option maxRecDepth 100000 in
theorem sX7_init {l : Launch} {D : va_G} {cA : Nat → ClassId} {base : Nat} {sA : Nat → Nat} {r0 : Nat} {h hE : Zh} (hf : fX7_init r0 h = some hE) : zCA l yX7_init cX7_init 1 none 3 60 D cA base sA [.ref (base + r0)] h none hE := by
  refine a_entry RX7 (by decide) rfl (Nat.le_of_ble_eq_true rfl) ?_
  intro p e R s m args below meth c hRf hRl r hin X hr
  unfold fX7_init at hf
  have hf := zlet_n (x := h) rfl hf
  show zGA p l e R s m args below meth c (MQ below (zQA D cA base h hE none) args s (zNC - zN h) (zNS - zS h) (zA base)) 1 D cA base h 0 [(0, .ref (base + r0))] [] h
  refine a_aload_n X 0 dX7_init_0 rfl ?_
  refine a_objInit X r w_ol_RX7_3 w_ob2 w_ob3 (by rw [hRf]; decide) (by rw [hRl]; exact Nat.le_of_ble_eq_true rfl) dX7_init_1 ?_
  refine a_aload_n X 0 dX7_init_4 rfl ?_
  refine a_iconst X (v := 0) dX7_init_5 (by decide) ?_
  obtain ⟨hn3, hf⟩ := zite hf
  obtain ⟨hc1, hf⟩ := zite hf
  refine a_newa1 X r hn3 hc1 w_ac_byte dX7_init_6 ?_
  refine a_hp (fun h2 eh2 => ?_)
  have hf := zlet_n eh2 hf
  obtain ⟨hk4, hf⟩ := zite hf
  refine a_putR X zf7 hk4 2 (by decide) w_f_RX7_9 rfl rfl rfl dX7_init_8 ?_
  refine a_hp (fun h5 eh5 => ?_)
  have hf := zlet_n eh5 hf
  refine a_aload_n X 0 dX7_init_11 rfl ?_
  obtain ⟨hc6, hf⟩ := zite hf
  refine a_new X r zf9 zq9 hc6 w_cl_RX7_15 w_in_RX9 w_ini_RX9 dX7_init_12 ?_
  refine a_hp (fun h7 eh7 => ?_)
  have hf := zlet_n eh7 hf
  refine a_dup X dX7_init_15 rfl ?_
  obtain ⟨h8, hch8, hf⟩ := zbd hf
  refine a_callIN X r 0 (sX9_init hch8) rfl yiX9_init w_mn_RX7_17 w_instanceMethod_X9_init w_ini_RX9 w_code_X9_init (by rw [hRf, hRl]; decide) rfl (st := [.ref (base + (zN h5)), .ref (base + r0)]) rfl (Nat.le_of_ble_eq_true rfl) dX7_init_16 ?_
  obtain ⟨hk9, hf⟩ := zite hf
  refine a_putR X zf7 hk9 4 (by decide) w_f_RX7_18 rfl rfl rfl dX7_init_19 ?_
  refine a_hp (fun h10 eh10 => ?_)
  have hf := zlet_n eh10 hf
  refine a_aload_n X 0 dX7_init_22 rfl ?_
  refine a_iconst X (v := 4) dX7_init_23 (by decide) ?_
  obtain ⟨hn13, hf⟩ := zite hf
  obtain ⟨hc11, hf⟩ := zite hf
  refine a_newa0 X r hn13 hc11 w_ac_int dX7_init_24 ?_
  refine a_hp (fun h12 eh12 => ?_)
  have hf := zlet_n eh12 hf
  obtain ⟨hk14, hf⟩ := zite hf
  refine a_putFR X hin rfl zf7 hk14 5 (by decide) w_f_RX7_22 rfl rfl rfl dX7_init_26 ?_
  refine a_hp (fun h15 eh15 => ?_)
  have hf := zlet_n eh15 hf
  refine a_aload_n X 0 dX7_init_29 rfl ?_
  refine a_iconst X (v := 4) dX7_init_30 (by decide) ?_
  obtain ⟨hn18, hf⟩ := zite hf
  obtain ⟨hc16, hf⟩ := zite hf
  refine a_newa0 X r hn18 hc16 w_ac_int dX7_init_31 ?_
  refine a_hp (fun h17 eh17 => ?_)
  have hf := zlet_n eh17 hf
  obtain ⟨hk19, hf⟩ := zite hf
  refine a_putFR X hin rfl zf7 hk19 6 (by decide) w_f_RX7_26 rfl rfl rfl dX7_init_33 ?_
  refine a_hp (fun h20 eh20 => ?_)
  have hf := zlet_n eh20 hf
  refine a_aload_n X 0 dX7_init_36 rfl ?_
  refine a_iconst X (v := 5) dX7_init_37 (by decide) ?_
  obtain ⟨hn23, hf⟩ := zite hf
  obtain ⟨hc21, hf⟩ := zite hf
  refine a_newa0 X r hn23 hc21 w_ac_int dX7_init_38 ?_
  refine a_hp (fun h22 eh22 => ?_)
  have hf := zlet_n eh22 hf
  obtain ⟨hk24, hf⟩ := zite hf
  refine a_putFR X hin rfl zf7 hk24 7 (by decide) w_f_RX7_29 rfl rfl rfl dX7_init_40 ?_
  refine a_hp (fun h25 eh25 => ?_)
  have hf := zlet_n eh25 hf
  cases hf
  exact a_vret X hr dX7_init_43

set_option maxHeartbeats 4000000 in
set_option maxRecDepth 100000 in
theorem sX10_init {l : Launch} {D : va_G} {cA : Nat → ClassId} {base : Nat} {sA : Nat → Nat} {r0 : Nat} {h hE : Zh} (hf : fX10_init r0 h = some hE) : zCA l yX10_init cX10_init 1 none 4 80 D cA base sA [.ref (base + r0)] h none hE := by
  refine a_entry RX10 (by decide) rfl (Nat.le_of_ble_eq_true rfl) ?_
  intro p e R s m args below meth c hRf hRl r hin X hr
  unfold fX10_init at hf
  have hf := zlet_n (x := h) rfl hf
  show zGA p l e R s m args below meth c (MQ below (zQA D cA base h hE none) args s (zNC - zN h) (zNS - zS h) (zA base)) 1 D cA base h 0 [(0, .ref (base + r0))] [] h
  refine a_aload_n X 0 dX10_init_0 rfl ?_
  refine a_objInit X r w_ol_RX10_1 w_ob2 w_ob3 (by rw [hRf]; decide) (by rw [hRl]; exact Nat.le_of_ble_eq_true rfl) dX10_init_1 ?_
  refine a_aload_n X 0 dX10_init_4 rfl ?_
  refine a_sipush X (v := 900) dX10_init_5 (by decide) ?_
  obtain ⟨hn3, hf⟩ := zite hf
  obtain ⟨hc1, hf⟩ := zite hf
  refine a_newa1 X r hn3 hc1 w_ac_byte dX10_init_8 ?_
  refine a_hp (fun h2 eh2 => ?_)
  have hf := zlet_n eh2 hf
  obtain ⟨hk4, hf⟩ := zite hf
  refine a_putFR X hin rfl zf10 hk4 0 (by decide) w_f_RX10_9 rfl rfl rfl dX10_init_10 ?_
  refine a_hp (fun h5 eh5 => ?_)
  have hf := zlet_n eh5 hf
  refine a_aload_n X 0 dX10_init_13 rfl ?_
  obtain ⟨hc6, hf⟩ := zite hf
  refine a_new X r zf7 zq7 hc6 w_cl_RX10_13 w_in_RX7 w_ini_RX7 dX10_init_14 ?_
  refine a_hp (fun h7 eh7 => ?_)
  have hf := zlet_n eh7 hf
  refine a_dup X dX10_init_17 rfl ?_
  obtain ⟨h8, hch8, hf⟩ := zbd hf
  refine a_callIN X r 0 (sX7_init hch8) rfl yiX7_init w_mn_RX10_15 w_instanceMethod_X7_init w_ini_RX7 w_code_X7_init (by rw [hRf, hRl]; decide) rfl (st := [.ref (base + (zN h5)), .ref (base + r0)]) rfl (Nat.le_of_ble_eq_true rfl) dX10_init_18 ?_
  obtain ⟨hk9, hf⟩ := zite hf
  refine a_putFR X hin rfl zf10 hk9 2 (by decide) w_f_RX10_16 rfl rfl rfl dX10_init_21 ?_
  refine a_hp (fun h10 eh10 => ?_)
  have hf := zlet_n eh10 hf
  refine a_aload_n X 0 dX10_init_24 rfl ?_
  obtain ⟨hc11, hf⟩ := zite hf
  refine a_new X r zf9 zq9 hc11 w_cl_RX10_20 w_in_RX9 w_ini_RX9 dX10_init_25 ?_
  refine a_hp (fun h12 eh12 => ?_)
  have hf := zlet_n eh12 hf
  refine a_dup X dX10_init_28 rfl ?_
  obtain ⟨h13, hch13, hf⟩ := zbd hf
  refine a_callIN X r 0 (sX9_init hch13) rfl yiX9_init w_mn_RX10_22 w_instanceMethod_X9_init w_ini_RX9 w_code_X9_init (by rw [hRf, hRl]; decide) rfl (st := [.ref (base + (zN h10)), .ref (base + r0)]) rfl (Nat.le_of_ble_eq_true rfl) dX10_init_29 ?_
  obtain ⟨hk14, hf⟩ := zite hf
  refine a_putR X zf10 hk14 3 (by decide) w_f_RX10_23 rfl rfl rfl dX10_init_32 ?_
  refine a_hp (fun h15 eh15 => ?_)
  have hf := zlet_n eh15 hf
  refine a_aload_n X 0 dX10_init_35 rfl ?_
  obtain ⟨hc16, hf⟩ := zite hf
  refine a_new X r zf9 zq9 hc16 w_cl_RX10_20 w_in_RX9 w_ini_RX9 dX10_init_36 ?_
  refine a_hp (fun h17 eh17 => ?_)
  have hf := zlet_n eh17 hf
  refine a_dup X dX10_init_39 rfl ?_
  obtain ⟨h18, hch18, hf⟩ := zbd hf
  refine a_callIN X r 0 (sX9_init hch18) rfl yiX9_init w_mn_RX10_22 w_instanceMethod_X9_init w_ini_RX9 w_code_X9_init (by rw [hRf, hRl]; decide) rfl (st := [.ref (base + (zN h15)), .ref (base + r0)]) rfl (Nat.le_of_ble_eq_true rfl) dX10_init_40 ?_
  obtain ⟨hk19, hf⟩ := zite hf
  refine a_putR X zf10 hk19 4 (by decide) w_f_RX10_27 rfl rfl rfl dX10_init_43 ?_
  refine a_hp (fun h20 eh20 => ?_)
  have hf := zlet_n eh20 hf
  refine a_aload_n X 0 dX10_init_46 rfl ?_
  obtain ⟨hc21, hf⟩ := zite hf
  refine a_new X r zf4 zq4 hc21 w_cl_RX10_30 w_in_RX4 w_ini_RX4 dX10_init_47 ?_
  refine a_hp (fun h22 eh22 => ?_)
  have hf := zlet_n eh22 hf
  refine a_dup X dX10_init_50 rfl ?_
  obtain ⟨h23, hch23, hf⟩ := zbd hf
  refine a_callIN X r 0 (sX4_init hch23) rfl yiX4_init w_mn_RX10_32 w_instanceMethod_X4_init w_ini_RX4 w_code_X4_init (by rw [hRf, hRl]; decide) rfl (st := [.ref (base + (zN h20)), .ref (base + r0)]) rfl (Nat.le_of_ble_eq_true rfl) dX10_init_51 ?_
  obtain ⟨hk24, hf⟩ := zite hf
  refine a_putFR X hin rfl zf10 hk24 5 (by decide) w_f_RX10_33 rfl rfl rfl dX10_init_54 ?_
  refine a_hp (fun h25 eh25 => ?_)
  have hf := zlet_n eh25 hf
  refine a_aload_n X 0 dX10_init_57 rfl ?_
  refine a_iconst X (v := 3) dX10_init_58 (by decide) ?_
  obtain ⟨hn28, hf⟩ := zite hf
  obtain ⟨hc26, hf⟩ := zite hf
  refine a_anew5 X r hn28 hc26 w_cl_RX10_37 dX10_init_59 ?_
  refine a_hp (fun h27 eh27 => ?_)
  have hf := zlet_n eh27 hf
  refine a_dup X dX10_init_62 rfl ?_
  refine a_iconst X (v := 0) dX10_init_63 (by decide) ?_
  obtain ⟨hc29, hf⟩ := zite hf
  refine a_new X r zf1 zq1 hc29 w_cl_RX10_37 w_in_RX1 w_ini_RX1 dX10_init_64 ?_
  refine a_hp (fun h30 eh30 => ?_)
  have hf := zlet_n eh30 hf
  refine a_dup X dX10_init_67 rfl ?_
  obtain ⟨h31, hch31, hf⟩ := zbd hf
  refine a_callIN X r 0 (sX1_init hch31) rfl yiX1_init w_mn_RX10_39 w_instanceMethod_X1_init w_ini_RX1 w_code_X1_init (by rw [hRf, hRl]; decide) rfl (st := [.ref (base + (zN h27)), .int ((0 : Int32)), .ref (base + (zN h25)), .ref (base + (zN h25)), .ref (base + r0)]) rfl (Nat.le_of_ble_eq_true rfl) dX10_init_68 ?_
  obtain ⟨hk32, hf⟩ := zite hf
  obtain ⟨hk33, hf⟩ := zite hf
  obtain ⟨hi34, hf⟩ := zite hf
  refine a_aast5 X hk32 hi34 hk33 dX10_init_71 ?_
  refine a_hp (fun h35 eh35 => ?_)
  have hf := zlet_n eh35 hf
  refine a_dup X dX10_init_72 rfl ?_
  refine a_iconst X (v := 1) dX10_init_73 (by decide) ?_
  obtain ⟨hc36, hf⟩ := zite hf
  refine a_new X r zf1 zq1 hc36 w_cl_RX10_37 w_in_RX1 w_ini_RX1 dX10_init_74 ?_
  refine a_hp (fun h37 eh37 => ?_)
  have hf := zlet_n eh37 hf
  refine a_dup X dX10_init_77 rfl ?_
  obtain ⟨h38, hch38, hf⟩ := zbd hf
  refine a_callIN X r 0 (sX1_init hch38) rfl yiX1_init w_mn_RX10_39 w_instanceMethod_X1_init w_ini_RX1 w_code_X1_init (by rw [hRf, hRl]; decide) rfl (st := [.ref (base + (zN h35)), .int ((1 : Int32)), .ref (base + (zN h25)), .ref (base + (zN h25)), .ref (base + r0)]) rfl (Nat.le_of_ble_eq_true rfl) dX10_init_78 ?_
  obtain ⟨hk39, hf⟩ := zite hf
  obtain ⟨hk40, hf⟩ := zite hf
  obtain ⟨hi41, hf⟩ := zite hf
  refine a_aast5 X hk39 hi41 hk40 dX10_init_81 ?_
  refine a_hp (fun h42 eh42 => ?_)
  have hf := zlet_n eh42 hf
  refine a_dup X dX10_init_82 rfl ?_
  refine a_iconst X (v := 2) dX10_init_83 (by decide) ?_
  obtain ⟨hc43, hf⟩ := zite hf
  refine a_new X r zf1 zq1 hc43 w_cl_RX10_37 w_in_RX1 w_ini_RX1 dX10_init_84 ?_
  refine a_hp (fun h44 eh44 => ?_)
  have hf := zlet_n eh44 hf
  refine a_dup X dX10_init_87 rfl ?_
  obtain ⟨h45, hch45, hf⟩ := zbd hf
  refine a_callIN X r 0 (sX1_init hch45) rfl yiX1_init w_mn_RX10_39 w_instanceMethod_X1_init w_ini_RX1 w_code_X1_init (by rw [hRf, hRl]; decide) rfl (st := [.ref (base + (zN h42)), .int ((2 : Int32)), .ref (base + (zN h25)), .ref (base + (zN h25)), .ref (base + r0)]) rfl (Nat.le_of_ble_eq_true rfl) dX10_init_88 ?_
  obtain ⟨hk46, hf⟩ := zite hf
  obtain ⟨hk47, hf⟩ := zite hf
  obtain ⟨hi48, hf⟩ := zite hf
  refine a_aast5 X hk46 hi48 hk47 dX10_init_91 ?_
  refine a_hp (fun h49 eh49 => ?_)
  have hf := zlet_n eh49 hf
  obtain ⟨hk50, hf⟩ := zite hf
  refine a_putFR X hin rfl zf10 hk50 6 (by decide) w_f_RX10_40 rfl rfl rfl dX10_init_92 ?_
  refine a_hp (fun h51 eh51 => ?_)
  have hf := zlet_n eh51 hf
  refine a_aload_n X 0 dX10_init_95 rfl ?_
  refine a_iconst X (v := 5) dX10_init_96 (by decide) ?_
  obtain ⟨hn54, hf⟩ := zite hf
  obtain ⟨hc52, hf⟩ := zite hf
  refine a_newa0 X r hn54 hc52 w_ac_int dX10_init_97 ?_
  refine a_hp (fun h53 eh53 => ?_)
  have hf := zlet_n eh53 hf
  obtain ⟨hk55, hf⟩ := zite hf
  refine a_putFR X hin rfl zf10 hk55 11 (by decide) w_f_RX10_44 rfl rfl rfl dX10_init_99 ?_
  refine a_hp (fun h56 eh56 => ?_)
  have hf := zlet_n eh56 hf
  cases hf
  exact a_vret X hr dX10_init_102

set_option maxHeartbeats 4000000 in
set_option maxRecDepth 100000 in
theorem sX10_lays {l : Launch} {D : va_G} {cA : Nat → ClassId} {base : Nat} {sA : Nat → Nat} {r0 : Nat} {x1 : Int32} {x2 : Int32} {h hE : Zh} {rE : Int32} (hf : fX10_lays r0 x1 x2 h = some (rE, hE)) : zCA l yX10_lays cX10_lays 3 (some .int) 7 170 D cA base sA [.ref (base + r0), .int x1, .int x2] h (some (.int rE)) hE := by
  refine a_entry RX10 (by decide) rfl (Nat.le_of_ble_eq_true rfl) ?_
  intro p e R s m args below meth c hRf hRl r hin X hr
  unfold fX10_lays at hf
  have hf := zlet_n (x := h) rfl hf
  show zGA p l e R s m args below meth c (MQ below (zQA D cA base h hE (some (.int rE))) args s (zNC - zN h) (zNS - zS h) (zA base)) 3 D cA base h 0 [(0, .ref (base + r0)), (1, .int x1), (2, .int x2)] [] h
  refine a_aload_n X 0 dX10_lays_0 rfl ?_
  refine a_iload_n X 1 dX10_lays_1 rfl ?_
  obtain ⟨hk1, hf⟩ := zite hf
  obtain ⟨v3, h2, hch2, hf⟩ := zc2_e hf
  refine a_callV X r 1 (sX10_noRule hch2) zf10 hk1 ydX10_noRule w_ml_RX10_157 w_instanceMethod_X10_noRule w_sel_X10_noRule w_ini_RX10 w_code_X10_noRule (by rw [hRf, hRl]; decide) rfl (st := []) rfl rfl (Nat.le_of_ble_eq_true rfl) dX10_lays_2 ?_
  refine a_if_ne X 16 dX10_lays_5 (by decide) (fun hq => ?_) (fun hq => ?_)
  · have hf := zneg hq hf
    refine a_aload_n X 0 dX10_lays_16 rfl ?_
    refine a_iconst X (v := 1) dX10_lays_17 (by decide) ?_
    obtain ⟨hk4, hf⟩ := zite hf
    obtain ⟨v6, h5, hch5, hf⟩ := zc2_e hf
    refine a_callV X r 1 (sX10_refuse hch5) zf10 hk4 ydX10_refuse w_ml_RX10_56 w_instanceMethod_X10_refuse w_sel_X10_refuse w_ini_RX10 w_code_X10_refuse (by rw [hRf, hRl]; decide) rfl (st := []) rfl rfl (Nat.le_of_ble_eq_true rfl) dX10_lays_18 ?_
    obtain ⟨rfl, rfl⟩ := zsm hf
    exact a_iret X hr dX10_lays_21
  · have hf := zpos hq hf
    refine a_aload_n X 0 dX10_lays_8 rfl ?_
    refine a_iload_n X 2 dX10_lays_9 rfl ?_
    obtain ⟨hk7, hf⟩ := zite hf
    obtain ⟨v9, h8, hch8, hf⟩ := zc2_e hf
    refine a_callV X r 1 (sX10_noHand hch8) zf10 hk7 ydX10_noHand w_ml_RX10_106 w_instanceMethod_X10_noHand w_sel_X10_noHand w_ini_RX10 w_code_X10_noHand (by rw [hRf, hRl]; decide) rfl (st := []) rfl rfl (Nat.le_of_ble_eq_true rfl) dX10_lays_10 ?_
    refine a_if_eq X 22 dX10_lays_13 (by decide) (fun hq => ?_) (fun hq => ?_)
    · have hf := zpos hq hf
      refine a_aload_n X 0 dX10_lays_22 rfl ?_
      refine a_aload_n X 0 dX10_lays_23 rfl ?_
      obtain ⟨hk10, hf⟩ := zite hf
      obtain ⟨r_11, hr_11, hf⟩ := zbd hf
      refine a_get X zf10 hk10 5 (by decide) w_f_RX10_33 rfl (zfv_r hr_11 rfl) dX10_lays_24 ?_
      refine a_iload_n X 1 dX10_lays_27 rfl ?_
      obtain ⟨hk12, hf⟩ := zite hf
      obtain ⟨v14, h13, hch13, hf⟩ := zc2_e hf
      refine a_callVA X r 1 (sX4_laidBy hch13) zf4 hk12 ydX4_laidBy w_ml_RX10_160 w_instanceMethod_X4_laidBy w_sel_X4_laidBy w_ini_RX4 w_code_X4_laidBy (by rw [hRf, hRl]; decide) rfl (st := [.ref (base + r0)]) rfl rfl (Nat.le_of_ble_eq_true rfl) dX10_lays_28 ?_
      obtain ⟨hk15, hf⟩ := zite hf
      obtain ⟨r_16, hr_16, hf⟩ := zbd hf
      refine a_get X zf2 hk15 1 (by decide) w_f_RX10_164 rfl (zfv_r hr_16 rfl) dX10_lays_31 ?_
      refine a_iload_n X 2 dX10_lays_34 rfl ?_
      obtain ⟨hk17, hf⟩ := zite hf
      obtain ⟨hi18, hf⟩ := zite hf
      refine a_iald X hk17 hi18 dX10_lays_35 ?_
      obtain ⟨hk19, hf⟩ := zite hf
      obtain ⟨v21, h20, hch20, hf⟩ := zc2_e hf
      refine a_callV X r 1 (sX10_answer hch20) zf10 hk19 ydX10_answer w_ml_RX10_84 w_instanceMethod_X10_answer w_sel_X10_answer w_ini_RX10 w_code_X10_answer (by rw [hRf, hRl]; decide) rfl (st := []) rfl rfl (Nat.le_of_ble_eq_true rfl) dX10_lays_36 ?_
      obtain ⟨rfl, rfl⟩ := zsm hf
      exact a_iret X hr dX10_lays_39
    · have hf := zneg hq hf
      refine a_aload_n X 0 dX10_lays_16 rfl ?_
      refine a_iconst X (v := 1) dX10_lays_17 (by decide) ?_
      obtain ⟨hk22, hf⟩ := zite hf
      obtain ⟨v24, h23, hch23, hf⟩ := zc2_e hf
      refine a_callV X r 1 (sX10_refuse hch23) zf10 hk22 ydX10_refuse w_ml_RX10_56 w_instanceMethod_X10_refuse w_sel_X10_refuse w_ini_RX10 w_code_X10_refuse (by rw [hRf, hRl]; decide) rfl (st := []) rfl rfl (Nat.le_of_ble_eq_true rfl) dX10_lays_18 ?_
      obtain ⟨rfl, rfl⟩ := zsm hf
      exact a_iret X hr dX10_lays_21

