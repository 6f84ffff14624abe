/-! FifthCard found -/
def bX10_found_20 (g : Zh) (r0 : Nat) (x1 : Int32) (x2 : Int32) (h : Zh) : Option (Nat × Int32 × Int32 × Zh) :=
  if zK h r0 = 10 then (zR h r0 3).bind fun r_5 => if zK h r_5 = 9 then if (zI h r_5 3) ≤ x2 then some (1, (x1, (x2, h))) else (zR h r0 5).bind fun r_7 => if zK h r_7 = 4 then zc2 (fX4_laidBy r_7 x2 h) fun v10 h9 => if zK h9 v10 = 2 then (zR h9 v10 1).bind fun r_12 => if zK h9 r0 = 10 then zc2 (fX10_firstWrong r0 r_12 h9) fun v15 h14 => if v15 = ((-2 : Int32)) then zlet (x1 ||| (((1 : Int32)) <<< (x2 &&& 31))) fun y17 => zlet (x2 + (1 : Int32)) fun y18 => some (0, (y17, (y18, h14))) else zlet (x2 + (1 : Int32)) fun y16 => some (0, (x1, (y16, h14))) else none else none else none else none else none
def kX10_found_20 (g : Zh) (r0 : Nat) (e : Nat) (x1 : Int32) (x2 : Int32) (h : Zh) : Option (Int32 × Zh) :=
  if zK h r0 = 10 then zc2 (fX10_answer r0 x1 h) fun v21 h20 => some (v21, h20) else none
def fX10_found (r0 : Nat) (h : Zh) : Option (Int32 × Zh) := zlet h fun g =>
  if zK h r0 = 10 then (zR h r0 3).bind fun r_2 => if zK h r_2 = 9 then if (zI h r_2 0) = 0 then zc2 (fX10_refuse r0 ((1 : Int32)) h) fun v23 h22 => some (v23, h22) else (lp (fun q : Int32 × Int32 × Zh => bX10_found_20 g r0 q.1 q.2.1 q.2.2) zB ((0 : Int32), ((0 : Int32), h))).bind fun q => kX10_found_20 g r0 q.1 q.2.1 q.2.2.1 q.2.2.2 else none else none
/-! FifthCard apart -/
def fX10_apart (r0 : Nat) (x1 : Int32) (x2 : Int32) (h : Zh) : Option (Int32 × Zh) := zlet h fun g =>
  if zK h r0 = 10 then zc2 (fX10_noRule r0 x1 h) fun v3 h2 => if v3 = 0 then if zK h2 r0 = 10 then zc2 (fX10_noRule r0 x2 h2) fun v9 h8 => if v9 = 0 then if x1 = x2 then if zK h8 r0 = 10 then zc2 (fX10_refuse r0 ((1 : Int32)) h8) fun v32 h31 => some (v32, h31) else none else if zK h8 r0 = 10 then (zR h8 r0 5).bind fun r_14 => (zR h8 r0 5).bind fun r_15 => if zK h8 r_15 = 4 then zc2 (fX4_laidBy r_15 x1 h8) fun v18 h17 => if zK h17 r0 = 10 then (zR h17 r0 5).bind fun r_20 => if zK h17 r_20 = 4 then zc2 (fX4_laidBy r_20 x2 h17) fun v23 h22 => if zK h22 r_14 = 4 then zc2 (fX4_handsApart r_14 v18 v23 h22) fun v26 h25 => if zK h25 r0 = 10 then zc2 (fX10_answer r0 v26 h25) fun v29 h28 => some (v29, h28) else none else none else none else none else none else none else if zK h8 r0 = 10 then zc2 (fX10_refuse r0 ((1 : Int32)) h8) fun v12 h11 => some (v12, h11) else none else none else if zK h2 r0 = 10 then zc2 (fX10_refuse r0 ((1 : Int32)) h2) fun v6 h5 => some (v6, h5) else none else none
/-! FifthCard mean -/
def fX10_mean (r0 : Nat) (x1 : Int32) (x2 : Int32) (x3 : Int32) (h : Zh) : Option (Int32 × Zh) := zlet h fun g =>
  if zK h r0 = 10 then zc2 (fX10_noRule r0 x1 h) fun v3 h2 => if v3 = 0 then if zK h2 r0 = 10 then zc2 (fX10_noRule r0 x2 h2) fun v9 h8 => if v9 = 0 then if x1 = x2 then if zK h8 r0 = 10 then zc2 (fX10_refuse r0 ((1 : Int32)) h8) fun v48 h47 => some (v48, h47) else none else if zK h8 r0 = 10 then (zR h8 r0 5).bind fun r_14 => (zR h8 r0 5).bind fun r_15 => if zK h8 r_15 = 4 then zc2 (fX4_laidBy r_15 x1 h8) fun v18 h17 => if zK h17 r0 = 10 then (zR h17 r0 5).bind fun r_20 => if zK h17 r_20 = 4 then zc2 (fX4_laidBy r_20 x2 h17) fun v23 h22 => if zK h22 r_14 = 4 then zc2 (fX4_handsApart r_14 v18 v23 h22) fun v26 h25 => if v26 = 0 then if zK h25 r0 = 10 then zc2 (fX10_refuse r0 ((6 : Int32)) h25) fun v45 h44 => some (v45, h44) else none else if zK h25 r0 = 10 then (zR h25 r0 3).bind fun r_28 => if zK h25 r_28 = 9 then (zR h25 r_28 1).bind fun r_30 => if zK h25 r_30 = 0 then zlet (zI h25 r_30 9) fun y32 => zc2 (fX10_commonDivisor y32 v26 h25) fun v34 h33 => if x3 = 0 then if ¬ v34 = 0 then if zK h33 r0 = 10 then zc2 (fX10_answer r0 (y32 / v34) h33) fun v38 h37 => some (v38, h37) else none else none else if ¬ v34 = 0 then if zK h33 r0 = 10 then zc2 (fX10_answer r0 (v26 / v34) h33) fun v42 h41 => some (v42, h41) else none else none else none else none else none else none else none else none else none else none else if zK h8 r0 = 10 then zc2 (fX10_refuse r0 ((1 : Int32)) h8) fun v12 h11 => some (v12, h11) else none else none else if zK h2 r0 = 10 then zc2 (fX10_refuse r0 ((1 : Int32)) h2) fun v6 h5 => some (v6, h5) else none else none
/-! FifthCard hardest -/
def jX10_hardest_106 (g : Zh) (r0 : Nat) (x1 : Int32) (x2 : Int32) (x3 : Int32) (r4 : Nat) (x5 : Int32) (t0 : Int32) (h : Zh) : Option (Nat × Int32 × Int32 × Int32 × Zh) :=
  if x2 ≤ t0 then zlet (x5 + (1 : Int32)) fun y24 => some (0, (x1, (x2, (y24, h)))) else zlet (x5 + (1 : Int32)) fun y25 => some (0, (x3, (t0, (y25, h))))
def bX10_hardest_66 (g : Zh) (r0 : Nat) (x3 : Int32) (r4 : Nat) (x1 : Int32) (x2 : Int32) (x5 : Int32) (h : Zh) : Option (Nat × Int32 × Int32 × Int32 × Zh) :=
  if zK h r0 = 10 then (zR h r0 3).bind fun r_14 => if zK h r_14 = 9 then if (zI h r_14 3) ≤ x5 then some (1, (x1, (x2, (x5, h)))) else if x5 = x3 then jX10_hardest_106 g r0 x1 x2 x3 r4 x5 x2 h else (zR h r0 5).bind fun r_16 => (zR h r0 5).bind fun r_17 => if zK h r_17 = 4 then zc2 (fX4_laidBy r_17 x5 h) fun v20 h19 => if zK h19 r_16 = 4 then zc2 (fX4_handsApart r_16 r4 v20 h19) fun v23 h22 => jX10_hardest_106 g r0 x1 x2 x3 r4 x5 v23 h22 else none else none else none else none
def kX10_hardest_66 (g : Zh) (r0 : Nat) (x3 : Int32) (e : Nat) (x1 : Int32) (x2 : Int32) (x5 : Int32) (h : Zh) : Option (Nat × Int32 × Int32 × Int32 × Zh) :=
  zlet (x3 + (1 : Int32)) fun y26 => some (0, (x1, (x2, (y26, h))))
def bX10_hardest_42 (g : Zh) (r0 : Nat) (x1 : Int32) (x2 : Int32) (x3 : Int32) (h : Zh) : Option (Nat × Int32 × Int32 × Int32 × Zh) :=
  if zK h r0 = 10 then (zR h r0 3).bind fun r_7 => if zK h r_7 = 9 then if (zI h r_7 3) ≤ x3 then some (1, (x1, (x2, (x3, h)))) else (zR h r0 5).bind fun r_9 => if zK h r_9 = 4 then zc2 (fX4_laidBy r_9 x3 h) fun v12 h11 => (lp (fun q : Int32 × Int32 × Int32 × Zh => bX10_hardest_66 g r0 x3 v12 q.1 q.2.1 q.2.2.1 q.2.2.2) zB (x1, (x2, ((0 : Int32), h11)))).bind fun q => kX10_hardest_66 g r0 x3 q.1 q.2.1 q.2.2.1 q.2.2.2.1 q.2.2.2.2 else none else none else none
def kX10_hardest_42 (g : Zh) (r0 : Nat) (e : Nat) (x1 : Int32) (x2 : Int32) (x3 : Int32) (h : Zh) : Option (Int32 × Zh) :=
  if zK h r0 = 10 then zc2 (fX10_answer r0 x1 h) fun v29 h28 => some (v29, h28) else none
def fX10_hardest (r0 : Nat) (h : Zh) : Option (Int32 × Zh) := zlet h fun g =>
  if zK h r0 = 10 then (zR h r0 3).bind fun r_2 => if zK h r_2 = 9 then if (zI h r_2 0) = 0 then zc2 (fX10_refuse r0 ((1 : Int32)) h) fun v33 h32 => some (v33, h32) else (zR h r0 3).bind fun r_4 => if zK h r_4 = 9 then if ((2 : Int32)) ≤ (zI h r_4 3) then (lp (fun q : Int32 × Int32 × Int32 × Zh => bX10_hardest_42 g r0 q.1 q.2.1 q.2.2.1 q.2.2.2) zB ((0 : Int32), ((2001 : Int32), ((0 : Int32), h)))).bind fun q => kX10_hardest_42 g r0 q.1 q.2.1 q.2.2.1 q.2.2.2.1 q.2.2.2.2 else zc2 (fX10_refuse r0 ((6 : Int32)) h) fun v31 h30 => some (v31, h30) else none else none else none
/-! FifthCard shows -/
def fX10_shows (r0 : Nat) (x1 : Int32) (x2 : Int32) (h : Zh) : Option (Int32 × Zh) := zlet h fun g =>
  if zK h r0 = 10 then zc2 (fX10_noRule r0 x1 h) fun v3 h2 => if v3 = 0 then if zK h2 r0 = 10 then zc2 (fX10_noHand r0 x2 h2) fun v9 h8 => if v9 = 0 then if zK h8 r0 = 10 then (zR h8 r0 5).bind fun r_11 => if zK h8 r_11 = 4 then zc2 (fX4_laidBy r_11 x1 h8) fun v14 h13 => if zK h13 v14 = 2 then (zR h13 v14 1).bind fun r_16 => if zK h13 r_16 = 100 then if zin x2 (zL h13 r_16) then zlet (zI h13 r_16 x2.toNatClampNeg) fun y19 => if 0 ≤ y19 then if zK h13 r0 = 10 then (zR h13 r0 3).bind fun r_21 => if zK h13 r_21 = 9 then (zR h13 r_21 4).bind fun r_23 => if zK h13 r_23 = 1 then if (zI h13 r_23 2) < ((20 : Int32)) then (zR h13 r0 3).bind fun r_25 => if zK h13 r_25 = 9 then (zR h13 r_25 4).bind fun r_27 => if zK h13 r_27 = 1 then (fX1_add r_27 x2 y19 h13).bind fun h29 => if zK h29 r0 = 10 then (zR h29 r0 3).bind fun r_31 => if zK h29 r_31 = 9 then (zR h29 r_31 4).bind fun r_33 => if zK h29 r_33 = 1 then zc2 (fX10_answer r0 ((zI h29 r_33 2) - ((1 : Int32))) h29) fun v36 h35 => some (v36, h35) else none else none else none else none else none else zc2 (fX10_refuse r0 ((3 : Int32)) h13) fun v38 h37 => some (v38, h37) else none else none else none else if zK h13 r0 = 10 then zc2 (fX10_refuse r0 ((6 : Int32)) h13) fun v41 h40 => some (v41, h40) else none else none else none else none else none else none else if zK h8 r0 = 10 then zc2 (fX10_refuse r0 ((1 : Int32)) h8) fun v44 h43 => some (v44, h43) else none else none else if zK h2 r0 = 10 then zc2 (fX10_refuse r0 ((1 : Int32)) h2) fun v6 h5 => some (v6, h5) else none else none
/-! FifthCardModel Trick init -/
def fX11_init (r0 : Nat) (h : Zh) : Option Zh := zlet h fun g =>
  if 0 ≤ ((4 : Int32)).toInt ∧ ((4 : Int32)).toInt ≤ 1000000 then if zN h + 1 ≤ zNC ∧ zS h + ((4 : Int32)).toNatClampNeg ≤ zNS then zlet (znw h 100 ((4 : Int32)).toNatClampNeg ((4 : Int32)).toNatClampNeg) fun h2 => if zK h2 r0 = 11 then zlet (zsR h2 r0 10 (some (zN h))) fun h5 => if 0 ≤ ((45 : Int32)).toInt ∧ ((45 : Int32)).toInt ≤ 1000000 then if zN h5 + 1 ≤ zNC ∧ zS h5 + ((45 : Int32)).toNatClampNeg ≤ zNS then zlet (znw h5 100 ((45 : Int32)).toNatClampNeg ((45 : Int32)).toNatClampNeg) fun h7 => if zK h7 r0 = 11 then zlet (zsR h7 r0 11 (some (zN h5))) fun h10 => if 0 ≤ ((45 : Int32)).toInt ∧ ((45 : Int32)).toInt ≤ 1000000 then if zN h10 + 1 ≤ zNC ∧ zS h10 + ((45 : Int32)).toNatClampNeg ≤ zNS then zlet (znw h10 100 ((45 : Int32)).toNatClampNeg ((45 : Int32)).toNatClampNeg) fun h12 => if zK h12 r0 = 11 then zlet (zsR h12 r0 12 (some (zN h10))) fun h15 => if 0 ≤ ((9 : Int32)).toInt ∧ ((9 : Int32)).toInt ≤ 1000000 then if zN h15 + 1 ≤ zNC ∧ zS h15 + ((9 : Int32)).toNatClampNeg ≤ zNS then zlet (znw h15 100 ((9 : Int32)).toNatClampNeg ((9 : Int32)).toNatClampNeg) fun h17 => if zK h17 r0 = 11 then zlet (zsR h17 r0 13 (some (zN h15))) fun h20 => if 0 ≤ ((4 : Int32)).toInt ∧ ((4 : Int32)).toInt ≤ 1000000 then if zN h20 + 1 ≤ zNC ∧ zS h20 + ((4 : Int32)).toNatClampNeg ≤ zNS then zlet (znw h20 102 ((4 : Int32)).toNatClampNeg ((4 : Int32)).toNatClampNeg) fun h22 => if zK h22 r0 = 11 then zlet (zsR h22 r0 14 (some (zN h20))) fun h25 => some h25 else none else none else none else none else none else none else none else none else none else none else none else none else none else none else none
theorem dX10_found_0 : decode cX10_found 0 = .ok (.aload_n 0, 1) := by decide +kernel
theorem dX10_found_1 : decode cX10_found 1 = .ok (.getfield 23, 3) := by decide +kernel
theorem dX10_found_4 : decode cX10_found 4 = .ok (.getfield 90, 3) := by decide +kernel
theorem dX10_found_7 : decode cX10_found 7 = .ok (.ifCond .ne 9, 3) := by decide +kernel
theorem dX10_found_10 : decode cX10_found 10 = .ok (.aload_n 0, 1) := by decide +kernel
theorem dX10_found_11 : decode cX10_found 11 = .ok (.iconst 1, 1) := by decide +kernel
theorem dX10_found_12 : decode cX10_found 12 = .ok (.invokevirtual 56, 3) := by decide +kernel
theorem dX10_found_15 : decode cX10_found 15 = .ok (.ireturn, 1) := by decide +kernel
theorem dX10_found_16 : decode cX10_found 16 = .ok (.iconst 0, 1) := by decide +kernel
theorem dX10_found_17 : decode cX10_found 17 = .ok (.istore_n 1, 1) := by decide +kernel
theorem dX10_found_18 : decode cX10_found 18 = .ok (.iconst 0, 1) := by decide +kernel
theorem dX10_found_19 : decode cX10_found 19 = .ok (.istore_n 2, 1) := by decide +kernel
theorem dX10_found_20 : decode cX10_found 20 = .ok (.iload_n 2, 1) := by decide +kernel
theorem dX10_found_21 : decode cX10_found 21 = .ok (.aload_n 0, 1) := by decide +kernel
theorem dX10_found_22 : decode cX10_found 22 = .ok (.getfield 23, 3) := by decide +kernel
theorem dX10_found_25 : decode cX10_found 25 = .ok (.getfield 81, 3) := by decide +kernel
theorem dX10_found_28 : decode cX10_found 28 = .ok (.if_icmp .ge 35, 3) := by decide +kernel
theorem dX10_found_31 : decode cX10_found 31 = .ok (.aload_n 0, 1) := by decide +kernel
theorem dX10_found_32 : decode cX10_found 32 = .ok (.aload_n 0, 1) := by decide +kernel
theorem dX10_found_33 : decode cX10_found 33 = .ok (.getfield 33, 3) := by decide +kernel
theorem dX10_found_36 : decode cX10_found 36 = .ok (.iload_n 2, 1) := by decide +kernel
theorem dX10_found_37 : decode cX10_found 37 = .ok (.invokevirtual 160, 3) := by decide +kernel
theorem dX10_found_40 : decode cX10_found 40 = .ok (.getfield 164, 3) := by decide +kernel
theorem dX10_found_43 : decode cX10_found 43 = .ok (.invokevirtual 245, 3) := by decide +kernel
theorem dX10_found_46 : decode cX10_found 46 = .ok (.bipush (-2), 2) := by decide +kernel
theorem dX10_found_48 : decode cX10_found 48 = .ok (.if_icmp .ne 9, 3) := by decide +kernel
theorem dX10_found_51 : decode cX10_found 51 = .ok (.iload_n 1, 1) := by decide +kernel
theorem dX10_found_52 : decode cX10_found 52 = .ok (.iconst 1, 1) := by decide +kernel
theorem dX10_found_53 : decode cX10_found 53 = .ok (.iload_n 2, 1) := by decide +kernel
theorem dX10_found_54 : decode cX10_found 54 = .ok (.ishl, 1) := by decide +kernel
theorem dX10_found_55 : decode cX10_found 55 = .ok (.ior, 1) := by decide +kernel
theorem dX10_found_56 : decode cX10_found 56 = .ok (.istore_n 1, 1) := by decide +kernel
theorem dX10_found_57 : decode cX10_found 57 = .ok (.iinc 2 1, 3) := by decide +kernel
theorem dX10_found_60 : decode cX10_found 60 = .ok (.goto (-40), 3) := by decide +kernel
theorem dX10_found_63 : decode cX10_found 63 = .ok (.aload_n 0, 1) := by decide +kernel
theorem dX10_found_64 : decode cX10_found 64 = .ok (.iload_n 1, 1) := by decide +kernel
theorem dX10_found_65 : decode cX10_found 65 = .ok (.invokevirtual 84, 3) := by decide +kernel
theorem dX10_found_68 : decode cX10_found 68 = .ok (.ireturn, 1) := by decide +kernel
theorem dX10_apart_0 : decode cX10_apart 0 = .ok (.aload_n 0, 1) := by decide +kernel
theorem dX10_apart_1 : decode cX10_apart 1 = .ok (.iload_n 1, 1) := by decide +kernel
theorem dX10_apart_2 : decode cX10_apart 2 = .ok (.invokevirtual 157, 3) := by decide +kernel
theorem dX10_apart_5 : decode cX10_apart 5 = .ok (.ifCond .ne 16, 3) := by decide +kernel
theorem dX10_apart_8 : decode cX10_apart 8 = .ok (.aload_n 0, 1) := by decide +kernel
theorem dX10_apart_9 : decode cX10_apart 9 = .ok (.iload_n 2, 1) := by decide +kernel
theorem dX10_apart_10 : decode cX10_apart 10 = .ok (.invokevirtual 157, 3) := by decide +kernel
theorem dX10_apart_13 : decode cX10_apart 13 = .ok (.ifCond .ne 8, 3) := by decide +kernel
theorem dX10_apart_16 : decode cX10_apart 16 = .ok (.iload_n 1, 1) := by decide +kernel
theorem dX10_apart_17 : decode cX10_apart 17 = .ok (.iload_n 2, 1) := by decide +kernel
theorem dX10_apart_18 : decode cX10_apart 18 = .ok (.if_icmp .ne 9, 3) := by decide +kernel
theorem dX10_apart_21 : decode cX10_apart 21 = .ok (.aload_n 0, 1) := by decide +kernel
theorem dX10_apart_22 : decode cX10_apart 22 = .ok (.iconst 1, 1) := by decide +kernel
theorem dX10_apart_23 : decode cX10_apart 23 = .ok (.invokevirtual 56, 3) := by decide +kernel
theorem dX10_apart_26 : decode cX10_apart 26 = .ok (.ireturn, 1) := by decide +kernel
theorem dX10_apart_27 : decode cX10_apart 27 = .ok (.aload_n 0, 1) := by decide +kernel
theorem dX10_apart_28 : decode cX10_apart 28 = .ok (.aload_n 0, 1) := by decide +kernel
theorem dX10_apart_29 : decode cX10_apart 29 = .ok (.getfield 33, 3) := by decide +kernel
theorem dX10_apart_32 : decode cX10_apart 32 = .ok (.aload_n 0, 1) := by decide +kernel
theorem dX10_apart_33 : decode cX10_apart 33 = .ok (.getfield 33, 3) := by decide +kernel
theorem dX10_apart_36 : decode cX10_apart 36 = .ok (.iload_n 1, 1) := by decide +kernel
theorem dX10_apart_37 : decode cX10_apart 37 = .ok (.invokevirtual 160, 3) := by decide +kernel
theorem dX10_apart_40 : decode cX10_apart 40 = .ok (.aload_n 0, 1) := by decide +kernel
theorem dX10_apart_41 : decode cX10_apart 41 = .ok (.getfield 33, 3) := by decide +kernel
theorem dX10_apart_44 : decode cX10_apart 44 = .ok (.iload_n 2, 1) := by decide +kernel
theorem dX10_apart_45 : decode cX10_apart 45 = .ok (.invokevirtual 160, 3) := by decide +kernel
theorem dX10_apart_48 : decode cX10_apart 48 = .ok (.invokevirtual 248, 3) := by decide +kernel
theorem dX10_apart_51 : decode cX10_apart 51 = .ok (.invokevirtual 84, 3) := by decide +kernel
theorem dX10_apart_54 : decode cX10_apart 54 = .ok (.ireturn, 1) := by decide +kernel
theorem dX10_mean_0 : decode cX10_mean 0 = .ok (.aload_n 0, 1) := by decide +kernel
theorem dX10_mean_1 : decode cX10_mean 1 = .ok (.iload_n 1, 1) := by decide +kernel
theorem dX10_mean_2 : decode cX10_mean 2 = .ok (.invokevirtual 157, 3) := by decide +kernel
theorem dX10_mean_5 : decode cX10_mean 5 = .ok (.ifCond .ne 16, 3) := by decide +kernel
theorem dX10_mean_8 : decode cX10_mean 8 = .ok (.aload_n 0, 1) := by decide +kernel
theorem dX10_mean_9 : decode cX10_mean 9 = .ok (.iload_n 2, 1) := by decide +kernel
theorem dX10_mean_10 : decode cX10_mean 10 = .ok (.invokevirtual 157, 3) := by decide +kernel
theorem dX10_mean_13 : decode cX10_mean 13 = .ok (.ifCond .ne 8, 3) := by decide +kernel
theorem dX10_mean_16 : decode cX10_mean 16 = .ok (.iload_n 1, 1) := by decide +kernel
theorem dX10_mean_17 : decode cX10_mean 17 = .ok (.iload_n 2, 1) := by decide +kernel
theorem dX10_mean_18 : decode cX10_mean 18 = .ok (.if_icmp .ne 9, 3) := by decide +kernel
theorem dX10_mean_21 : decode cX10_mean 21 = .ok (.aload_n 0, 1) := by decide +kernel
theorem dX10_mean_22 : decode cX10_mean 22 = .ok (.iconst 1, 1) := by decide +kernel
theorem dX10_mean_23 : decode cX10_mean 23 = .ok (.invokevirtual 56, 3) := by decide +kernel
theorem dX10_mean_26 : decode cX10_mean 26 = .ok (.ireturn, 1) := by decide +kernel
theorem dX10_mean_27 : decode cX10_mean 27 = .ok (.aload_n 0, 1) := by decide +kernel
theorem dX10_mean_28 : decode cX10_mean 28 = .ok (.getfield 33, 3) := by decide +kernel
theorem dX10_mean_31 : decode cX10_mean 31 = .ok (.aload_n 0, 1) := by decide +kernel
theorem dX10_mean_32 : decode cX10_mean 32 = .ok (.getfield 33, 3) := by decide +kernel
theorem dX10_mean_35 : decode cX10_mean 35 = .ok (.iload_n 1, 1) := by decide +kernel
theorem dX10_mean_36 : decode cX10_mean 36 = .ok (.invokevirtual 160, 3) := by decide +kernel
theorem dX10_mean_39 : decode cX10_mean 39 = .ok (.aload_n 0, 1) := by decide +kernel
theorem dX10_mean_40 : decode cX10_mean 40 = .ok (.getfield 33, 3) := by decide +kernel
theorem dX10_mean_43 : decode cX10_mean 43 = .ok (.iload_n 2, 1) := by decide +kernel
theorem dX10_mean_44 : decode cX10_mean 44 = .ok (.invokevirtual 160, 3) := by decide +kernel
theorem dX10_mean_47 : decode cX10_mean 47 = .ok (.invokevirtual 248, 3) := by decide +kernel
theorem dX10_mean_50 : decode cX10_mean 50 = .ok (.istore 4, 2) := by decide +kernel
theorem dX10_mean_52 : decode cX10_mean 52 = .ok (.iload 4, 2) := by decide +kernel
theorem dX10_mean_54 : decode cX10_mean 54 = .ok (.ifCond .ne 10, 3) := by decide +kernel
theorem dX10_mean_57 : decode cX10_mean 57 = .ok (.aload_n 0, 1) := by decide +kernel
theorem dX10_mean_58 : decode cX10_mean 58 = .ok (.bipush 6, 2) := by decide +kernel
theorem dX10_mean_60 : decode cX10_mean 60 = .ok (.invokevirtual 56, 3) := by decide +kernel
theorem dX10_mean_63 : decode cX10_mean 63 = .ok (.ireturn, 1) := by decide +kernel
theorem dX10_mean_64 : decode cX10_mean 64 = .ok (.aload_n 0, 1) := by decide +kernel
theorem dX10_mean_65 : decode cX10_mean 65 = .ok (.getfield 23, 3) := by decide +kernel
theorem dX10_mean_68 : decode cX10_mean 68 = .ok (.getfield 94, 3) := by decide +kernel
theorem dX10_mean_71 : decode cX10_mean 71 = .ok (.getfield 98, 3) := by decide +kernel
theorem dX10_mean_74 : decode cX10_mean 74 = .ok (.istore 5, 2) := by decide +kernel
theorem dX10_mean_76 : decode cX10_mean 76 = .ok (.iload 5, 2) := by decide +kernel
theorem dX10_mean_78 : decode cX10_mean 78 = .ok (.iload 4, 2) := by decide +kernel
theorem dX10_mean_80 : decode cX10_mean 80 = .ok (.invokestatic 252, 3) := by decide +kernel
theorem dX10_mean_83 : decode cX10_mean 83 = .ok (.istore 6, 2) := by decide +kernel
theorem dX10_mean_85 : decode cX10_mean 85 = .ok (.aload_n 0, 1) := by decide +kernel
theorem dX10_mean_86 : decode cX10_mean 86 = .ok (.iload_n 3, 1) := by decide +kernel
theorem dX10_mean_87 : decode cX10_mean 87 = .ok (.ifCond .eq 8, 3) := by decide +kernel
theorem dX10_mean_90 : decode cX10_mean 90 = .ok (.iload 4, 2) := by decide +kernel
theorem dX10_mean_92 : decode cX10_mean 92 = .ok (.goto 5, 3) := by decide +kernel
theorem dX10_mean_95 : decode cX10_mean 95 = .ok (.iload 5, 2) := by decide +kernel
theorem dX10_mean_97 : decode cX10_mean 97 = .ok (.iload 6, 2) := by decide +kernel
theorem dX10_mean_99 : decode cX10_mean 99 = .ok (.idiv, 1) := by decide +kernel
theorem dX10_mean_100 : decode cX10_mean 100 = .ok (.invokevirtual 84, 3) := by decide +kernel
theorem dX10_mean_103 : decode cX10_mean 103 = .ok (.ireturn, 1) := by decide +kernel
theorem dX10_hardest_0 : decode cX10_hardest 0 = .ok (.aload_n 0, 1) := by decide +kernel
theorem dX10_hardest_1 : decode cX10_hardest 1 = .ok (.getfield 23, 3) := by decide +kernel
theorem dX10_hardest_4 : decode cX10_hardest 4 = .ok (.getfield 90, 3) := by decide +kernel
theorem dX10_hardest_7 : decode cX10_hardest 7 = .ok (.ifCond .ne 9, 3) := by decide +kernel
theorem dX10_hardest_10 : decode cX10_hardest 10 = .ok (.aload_n 0, 1) := by decide +kernel
theorem dX10_hardest_11 : decode cX10_hardest 11 = .ok (.iconst 1, 1) := by decide +kernel
theorem dX10_hardest_12 : decode cX10_hardest 12 = .ok (.invokevirtual 56, 3) := by decide +kernel
theorem dX10_hardest_15 : decode cX10_hardest 15 = .ok (.ireturn, 1) := by decide +kernel
theorem dX10_hardest_16 : decode cX10_hardest 16 = .ok (.aload_n 0, 1) := by decide +kernel
theorem dX10_hardest_17 : decode cX10_hardest 17 = .ok (.getfield 23, 3) := by decide +kernel
theorem dX10_hardest_20 : decode cX10_hardest 20 = .ok (.getfield 81, 3) := by decide +kernel
theorem dX10_hardest_23 : decode cX10_hardest 23 = .ok (.iconst 2, 1) := by decide +kernel
theorem dX10_hardest_24 : decode cX10_hardest 24 = .ok (.if_icmp .ge 10, 3) := by decide +kernel
theorem dX10_hardest_27 : decode cX10_hardest 27 = .ok (.aload_n 0, 1) := by decide +kernel
theorem dX10_hardest_28 : decode cX10_hardest 28 = .ok (.bipush 6, 2) := by decide +kernel
theorem dX10_hardest_30 : decode cX10_hardest 30 = .ok (.invokevirtual 56, 3) := by decide +kernel
theorem dX10_hardest_33 : decode cX10_hardest 33 = .ok (.ireturn, 1) := by decide +kernel
theorem dX10_hardest_34 : decode cX10_hardest 34 = .ok (.iconst 0, 1) := by decide +kernel
theorem dX10_hardest_35 : decode cX10_hardest 35 = .ok (.istore_n 1, 1) := by decide +kernel
theorem dX10_hardest_36 : decode cX10_hardest 36 = .ok (.sipush 2001, 3) := by decide +kernel
theorem dX10_hardest_39 : decode cX10_hardest 39 = .ok (.istore_n 2, 1) := by decide +kernel
theorem dX10_hardest_40 : decode cX10_hardest 40 = .ok (.iconst 0, 1) := by decide +kernel
theorem dX10_hardest_41 : decode cX10_hardest 41 = .ok (.istore_n 3, 1) := by decide +kernel
theorem dX10_hardest_42 : decode cX10_hardest 42 = .ok (.iload_n 3, 1) := by decide +kernel
theorem dX10_hardest_43 : decode cX10_hardest 43 = .ok (.aload_n 0, 1) := by decide +kernel
theorem dX10_hardest_44 : decode cX10_hardest 44 = .ok (.getfield 23, 3) := by decide +kernel
theorem dX10_hardest_47 : decode cX10_hardest 47 = .ok (.getfield 81, 3) := by decide +kernel
theorem dX10_hardest_50 : decode cX10_hardest 50 = .ok (.if_icmp .ge 81, 3) := by decide +kernel
theorem dX10_hardest_53 : decode cX10_hardest 53 = .ok (.aload_n 0, 1) := by decide +kernel
theorem dX10_hardest_54 : decode cX10_hardest 54 = .ok (.getfield 33, 3) := by decide +kernel
theorem dX10_hardest_57 : decode cX10_hardest 57 = .ok (.iload_n 3, 1) := by decide +kernel
theorem dX10_hardest_58 : decode cX10_hardest 58 = .ok (.invokevirtual 160, 3) := by decide +kernel
theorem dX10_hardest_61 : decode cX10_hardest 61 = .ok (.astore 4, 2) := by decide +kernel
theorem dX10_hardest_63 : decode cX10_hardest 63 = .ok (.iconst 0, 1) := by decide +kernel
theorem dX10_hardest_64 : decode cX10_hardest 64 = .ok (.istore 5, 2) := by decide +kernel
theorem dX10_hardest_66 : decode cX10_hardest 66 = .ok (.iload 5, 2) := by decide +kernel
theorem dX10_hardest_68 : decode cX10_hardest 68 = .ok (.aload_n 0, 1) := by decide +kernel
theorem dX10_hardest_69 : decode cX10_hardest 69 = .ok (.getfield 23, 3) := by decide +kernel
theorem dX10_hardest_72 : decode cX10_hardest 72 = .ok (.getfield 81, 3) := by decide +kernel
theorem dX10_hardest_75 : decode cX10_hardest 75 = .ok (.if_icmp .ge 50, 3) := by decide +kernel
theorem dX10_hardest_78 : decode cX10_hardest 78 = .ok (.iload 5, 2) := by decide +kernel
theorem dX10_hardest_80 : decode cX10_hardest 80 = .ok (.iload_n 3, 1) := by decide +kernel
theorem dX10_hardest_81 : decode cX10_hardest 81 = .ok (.if_icmp .ne 7, 3) := by decide +kernel
theorem dX10_hardest_84 : decode cX10_hardest 84 = .ok (.iload_n 2, 1) := by decide +kernel
theorem dX10_hardest_85 : decode cX10_hardest 85 = .ok (.goto 21, 3) := by decide +kernel
theorem dX10_hardest_88 : decode cX10_hardest 88 = .ok (.aload_n 0, 1) := by decide +kernel
theorem dX10_hardest_89 : decode cX10_hardest 89 = .ok (.getfield 33, 3) := by decide +kernel
theorem dX10_hardest_92 : decode cX10_hardest 92 = .ok (.aload 4, 2) := by decide +kernel
theorem dX10_hardest_94 : decode cX10_hardest 94 = .ok (.aload_n 0, 1) := by decide +kernel
theorem dX10_hardest_95 : decode cX10_hardest 95 = .ok (.getfield 33, 3) := by decide +kernel
theorem dX10_hardest_98 : decode cX10_hardest 98 = .ok (.iload 5, 2) := by decide +kernel
theorem dX10_hardest_100 : decode cX10_hardest 100 = .ok (.invokevirtual 160, 3) := by decide +kernel
theorem dX10_hardest_103 : decode cX10_hardest 103 = .ok (.invokevirtual 248, 3) := by decide +kernel
theorem dX10_hardest_106 : decode cX10_hardest 106 = .ok (.istore 6, 2) := by decide +kernel
theorem dX10_hardest_108 : decode cX10_hardest 108 = .ok (.iload 6, 2) := by decide +kernel
theorem dX10_hardest_110 : decode cX10_hardest 110 = .ok (.iload_n 2, 1) := by decide +kernel
theorem dX10_hardest_111 : decode cX10_hardest 111 = .ok (.if_icmp .ge 8, 3) := by decide +kernel
theorem dX10_hardest_114 : decode cX10_hardest 114 = .ok (.iload 6, 2) := by decide +kernel
theorem dX10_hardest_116 : decode cX10_hardest 116 = .ok (.istore_n 2, 1) := by decide +kernel
theorem dX10_hardest_117 : decode cX10_hardest 117 = .ok (.iload_n 3, 1) := by decide +kernel
theorem dX10_hardest_118 : decode cX10_hardest 118 = .ok (.istore_n 1, 1) := by decide +kernel
theorem dX10_hardest_119 : decode cX10_hardest 119 = .ok (.iinc 5 1, 3) := by decide +kernel
theorem dX10_hardest_122 : decode cX10_hardest 122 = .ok (.goto (-56), 3) := by decide +kernel
theorem dX10_hardest_125 : decode cX10_hardest 125 = .ok (.iinc 3 1, 3) := by decide +kernel
theorem dX10_hardest_128 : decode cX10_hardest 128 = .ok (.goto (-86), 3) := by decide +kernel
theorem dX10_hardest_131 : decode cX10_hardest 131 = .ok (.aload_n 0, 1) := by decide +kernel
theorem dX10_hardest_132 : decode cX10_hardest 132 = .ok (.iload_n 1, 1) := by decide +kernel
theorem dX10_hardest_133 : decode cX10_hardest 133 = .ok (.invokevirtual 84, 3) := by decide +kernel
theorem dX10_hardest_136 : decode cX10_hardest 136 = .ok (.ireturn, 1) := by decide +kernel
theorem dX10_shows_0 : decode cX10_shows 0 = .ok (.aload_n 0, 1) := by decide +kernel
theorem dX10_shows_1 : decode cX10_shows 1 = .ok (.iload_n 1, 1) := by decide +kernel
theorem dX10_shows_2 : decode cX10_shows 2 = .ok (.invokevirtual 157, 3) := by decide +kernel
theorem dX10_shows_5 : decode cX10_shows 5 = .ok (.ifCond .ne 11, 3) := by decide +kernel
theorem dX10_shows_8 : decode cX10_shows 8 = .ok (.aload_n 0, 1) := by decide +kernel
theorem dX10_shows_9 : decode cX10_shows 9 = .ok (.iload_n 2, 1) := by decide +kernel
theorem dX10_shows_10 : decode cX10_shows 10 = .ok (.invokevirtual 106, 3) := by decide +kernel
theorem dX10_shows_13 : decode cX10_shows 13 = .ok (.ifCond .eq 9, 3) := by decide +kernel
theorem dX10_shows_16 : decode cX10_shows 16 = .ok (.aload_n 0, 1) := by decide +kernel
theorem dX10_shows_17 : decode cX10_shows 17 = .ok (.iconst 1, 1) := by decide +kernel
theorem dX10_shows_18 : decode cX10_shows 18 = .ok (.invokevirtual 56, 3) := by decide +kernel
theorem dX10_shows_21 : decode cX10_shows 21 = .ok (.ireturn, 1) := by decide +kernel
theorem dX10_shows_22 : decode cX10_shows 22 = .ok (.aload_n 0, 1) := by decide +kernel
theorem dX10_shows_23 : decode cX10_shows 23 = .ok (.getfield 33, 3) := by decide +kernel
theorem dX10_shows_26 : decode cX10_shows 26 = .ok (.iload_n 1, 1) := by decide +kernel
theorem dX10_shows_27 : decode cX10_shows 27 = .ok (.invokevirtual 160, 3) := by decide +kernel
theorem dX10_shows_30 : decode cX10_shows 30 = .ok (.getfield 164, 3) := by decide +kernel
theorem dX10_shows_33 : decode cX10_shows 33 = .ok (.iload_n 2, 1) := by decide +kernel
theorem dX10_shows_34 : decode cX10_shows 34 = .ok (.iaload, 1) := by decide +kernel
theorem dX10_shows_35 : decode cX10_shows 35 = .ok (.istore_n 3, 1) := by decide +kernel
theorem dX10_shows_36 : decode cX10_shows 36 = .ok (.iload_n 3, 1) := by decide +kernel
theorem dX10_shows_37 : decode cX10_shows 37 = .ok (.ifCond .ge 10, 3) := by decide +kernel
theorem dX10_shows_40 : decode cX10_shows 40 = .ok (.aload_n 0, 1) := by decide +kernel
theorem dX10_shows_41 : decode cX10_shows 41 = .ok (.bipush 6, 2) := by decide +kernel
theorem dX10_shows_43 : decode cX10_shows 43 = .ok (.invokevirtual 56, 3) := by decide +kernel
theorem dX10_shows_46 : decode cX10_shows 46 = .ok (.ireturn, 1) := by decide +kernel
theorem dX10_shows_47 : decode cX10_shows 47 = .ok (.aload_n 0, 1) := by decide +kernel
theorem dX10_shows_48 : decode cX10_shows 48 = .ok (.getfield 23, 3) := by decide +kernel
theorem dX10_shows_51 : decode cX10_shows 51 = .ok (.getfield 233, 3) := by decide +kernel
theorem dX10_shows_54 : decode cX10_shows 54 = .ok (.getfield 239, 3) := by decide +kernel
theorem dX10_shows_57 : decode cX10_shows 57 = .ok (.bipush 20, 2) := by decide +kernel
theorem dX10_shows_59 : decode cX10_shows 59 = .ok (.if_icmp .lt 9, 3) := by decide +kernel
theorem dX10_shows_62 : decode cX10_shows 62 = .ok (.aload_n 0, 1) := by decide +kernel
theorem dX10_shows_63 : decode cX10_shows 63 = .ok (.iconst 3, 1) := by decide +kernel
theorem dX10_shows_64 : decode cX10_shows 64 = .ok (.invokevirtual 56, 3) := by decide +kernel
theorem dX10_shows_67 : decode cX10_shows 67 = .ok (.ireturn, 1) := by decide +kernel
theorem dX10_shows_68 : decode cX10_shows 68 = .ok (.aload_n 0, 1) := by decide +kernel
theorem dX10_shows_69 : decode cX10_shows 69 = .ok (.getfield 23, 3) := by decide +kernel
theorem dX10_shows_72 : decode cX10_shows 72 = .ok (.getfield 233, 3) := by decide +kernel
theorem dX10_shows_75 : decode cX10_shows 75 = .ok (.iload_n 2, 1) := by decide +kernel
theorem dX10_shows_76 : decode cX10_shows 76 = .ok (.iload_n 3, 1) := by decide +kernel
theorem dX10_shows_77 : decode cX10_shows 77 = .ok (.invokevirtual 258, 3) := by decide +kernel
theorem dX10_shows_80 : decode cX10_shows 80 = .ok (.aload_n 0, 1) := by decide +kernel
theorem dX10_shows_81 : decode cX10_shows 81 = .ok (.aload_n 0, 1) := by decide +kernel
theorem dX10_shows_82 : decode cX10_shows 82 = .ok (.getfield 23, 3) := by decide +kernel
theorem dX10_shows_85 : decode cX10_shows 85 = .ok (.getfield 233, 3) := by decide +kernel
theorem dX10_shows_88 : decode cX10_shows 88 = .ok (.getfield 239, 3) := by decide +kernel
theorem dX10_shows_91 : decode cX10_shows 91 = .ok (.iconst 1, 1) := by decide +kernel
theorem dX10_shows_92 : decode cX10_shows 92 = .ok (.isub, 1) := by decide +kernel
theorem dX10_shows_93 : decode cX10_shows 93 = .ok (.invokevirtual 84, 3) := by decide +kernel
theorem dX10_shows_96 : decode cX10_shows 96 = .ok (.ireturn, 1) := by decide +kernel
theorem dX11_init_0 : decode cX11_init 0 = .ok (.aload_n 0, 1) := by decide +kernel
theorem dX11_init_1 : decode cX11_init 1 = .ok (.invokespecial 3, 3) := by decide +kernel
theorem dX11_init_4 : decode cX11_init 4 = .ok (.aload_n 0, 1) := by decide +kernel
theorem dX11_init_5 : decode cX11_init 5 = .ok (.iconst 4, 1) := by decide +kernel
theorem dX11_init_6 : decode cX11_init 6 = .ok (.newarray .int, 2) := by decide +kernel
theorem dX11_init_8 : decode cX11_init 8 = .ok (.putfield 9, 3) := by decide +kernel
theorem dX11_init_11 : decode cX11_init 11 = .ok (.aload_n 0, 1) := by decide +kernel
theorem dX11_init_12 : decode cX11_init 12 = .ok (.bipush 45, 2) := by decide +kernel
theorem dX11_init_14 : decode cX11_init 14 = .ok (.newarray .int, 2) := by decide +kernel
theorem dX11_init_16 : decode cX11_init 16 = .ok (.putfield 15, 3) := by decide +kernel
theorem dX11_init_19 : decode cX11_init 19 = .ok (.aload_n 0, 1) := by decide +kernel
theorem dX11_init_20 : decode cX11_init 20 = .ok (.bipush 45, 2) := by decide +kernel
theorem dX11_init_22 : decode cX11_init 22 = .ok (.newarray .int, 2) := by decide +kernel
theorem dX11_init_24 : decode cX11_init 24 = .ok (.putfield 18, 3) := by decide +kernel
theorem dX11_init_27 : decode cX11_init 27 = .ok (.aload_n 0, 1) := by decide +kernel
theorem dX11_init_28 : decode cX11_init 28 = .ok (.bipush 9, 2) := by decide +kernel
theorem dX11_init_30 : decode cX11_init 30 = .ok (.newarray .int, 2) := by decide +kernel
theorem dX11_init_32 : decode cX11_init 32 = .ok (.putfield 21, 3) := by decide +kernel
theorem dX11_init_35 : decode cX11_init 35 = .ok (.aload_n 0, 1) := by decide +kernel
theorem dX11_init_36 : decode cX11_init 36 = .ok (.iconst 4, 1) := by decide +kernel
theorem dX11_init_37 : decode cX11_init 37 = .ok (.newarray .long, 2) := by decide +kernel
theorem dX11_init_39 : decode cX11_init 39 = .ok (.putfield 24, 3) := by decide +kernel
theorem dX11_init_42 : decode cX11_init 42 = .ok (.return_, 1) := by decide +kernel
set_option maxHeartbeats 4000000 in
set_option maxRecDepth 100000 in
theorem sX10_found {l : Launch} {D : va_G} {cA : Nat → ClassId} {base : Nat} {sA : Nat → Nat} {r0 : Nat} {h hE : Zh} {rE : Int32} (hf : fX10_found r0 h = some (rE, hE)) : zCA l yX10_found cX10_found 3 (some .int) 7 170 D cA base sA [.ref (base + r0)] h (some (.int rE)) hE := by
  refine a_entry RX10 (by decide) rfl (Nat.le_of_ble_eq_true rfl) ?_
  intro p e R s m args below meth c hRf hRl r hin X hr
  unfold fX10_found at hf
  have hf := zlet_n (x := h) rfl hf
  show zGA p l e R s m args below meth c (MQ below (zQA D cA base h hE (some (.int rE))) args s (zNC - zN h) (zNS - zS h) (zA base)) 3 D cA base h 0 [(0, .ref (base + r0))] [] h
  refine a_aload_n X 0 dX10_found_0 rfl ?_
  obtain ⟨hk1, hf⟩ := zite hf
  obtain ⟨r_2, hr_2, hf⟩ := zbd hf
  refine a_get X zf10 hk1 3 (by decide) w_f_RX10_23 rfl (zfv_r hr_2 rfl) dX10_found_1 ?_
  obtain ⟨hk3, hf⟩ := zite hf
  refine a_get X zf9 hk3 0 (by decide) w_f_RX10_90 rfl rfl dX10_found_4 ?_
  refine a_if_ne X 16 dX10_found_7 (by decide) (fun hq => ?_) (fun hq => ?_)
  · have hf := zneg hq hf
    refine a_iconst X (v := 0) dX10_found_16 (by decide) ?_
    refine a_istore_n X [(1, .int ((0 : Int32))), (0, .ref (base + r0))] dX10_found_17 (by decide) rfl ?_
    refine a_iconst X (v := 0) dX10_found_18 (by decide) ?_
    refine a_istore_n X [(2, .int ((0 : Int32))), (1, .int ((0 : Int32))), (0, .ref (base + r0))] dX10_found_19 (by decide) rfl ?_
    refine a_sub [2, 1, 0] rfl ?_
    obtain ⟨qq, hlp, hf⟩ := zbd hf
    refine lp_snd (body := (fun q : Int32 × Int32 × Zh => bX10_found_20 h r0 q.1 q.2.1 q.2.2)) (P := (fun q : Int32 × Int32 × Zh => zGA p l e R s m args below meth c (MQ below (zQA D cA base h hE (some (.int rE))) args s (zNC - zN h) (zNS - zS h) (zA base)) 3 D cA base h 20 [(0, .ref (base + r0)), (1, .int q.1), (2, .int q.2.1)] [] q.2.2)) (E := (fun (en : Nat) (q : Int32 × Int32 × Zh) => zGA p l e R s m args below meth c (MQ below (zQA D cA base h hE (some (.int rE))) args s (zNC - zN h) (zNS - zS h) (zA base)) 3 D cA base h 63 [(0, .ref (base + r0)), (1, .int q.1)] [] q.2.2)) ?_ zB ((0 : Int32), ((0 : Int32), h)) qq.1 qq.2 hlp ?_
    · intro q e_20 q_20 hf hc0 hc1
      obtain ⟨x1_20, x2_20, h_20⟩ := q
      have hf : bX10_found_20 h r0 x1_20 x2_20 h_20 = some (e_20, q_20) := hf
      unfold bX10_found_20 at hf
      show zGA p l e R s m args below meth c (MQ below (zQA D cA base h hE (some (.int rE))) args s (zNC - zN h) (zNS - zS h) (zA base)) 3 D cA base h 20 [(0, .ref (base + r0)), (1, .int x1_20), (2, .int x2_20)] [] h_20
      refine a_iload_n X 2 dX10_found_20 rfl ?_
      refine a_aload_n X 0 dX10_found_21 rfl ?_
      obtain ⟨hk4, hf⟩ := zite hf
      obtain ⟨r_5, hr_5, hf⟩ := zbd hf
      refine a_get X zf10 hk4 3 (by decide) w_f_RX10_23 rfl (zfv_r hr_5 rfl) dX10_found_22 ?_
      obtain ⟨hk6, hf⟩ := zite hf
      refine a_get X zf9 hk6 3 (by decide) w_f_RX10_81 rfl rfl dX10_found_25 ?_
      refine a_icmp_ge X 63 dX10_found_28 (by decide) (fun hq => ?_) (fun hq => ?_)
      · have hf := zpos hq hf
        cases hf
        have hc1 := hc1 (by decide)
        exact a_sub [0, 1] rfl hc1
      · have hf := zneg hq hf
        refine a_aload_n X 0 dX10_found_31 rfl ?_
        refine a_aload_n X 0 dX10_found_32 rfl ?_
        obtain ⟨r_7, hr_7, hf⟩ := zbd hf
        refine a_get X zf10 hk4 5 (by decide) w_f_RX10_33 rfl (zfv_r hr_7 rfl) dX10_found_33 ?_
        refine a_iload_n X 2 dX10_found_36 rfl ?_
        obtain ⟨hk8, hf⟩ := zite hf
        obtain ⟨v10, h9, hch9, hf⟩ := zc2_e hf
        refine a_callVA X r 1 (sX4_laidBy hch9) zf4 hk8 ydX4_laidBy w_ml_RX10_160 w_instanceMethod_X4_laidBy w_sel_X4_laidBy w_ini_RX4 w_code_X4_laidBy (by rw [hRf, hRl]; decide) rfl (st := [.ref (base + r0)]) rfl rfl (Nat.le_of_ble_eq_true rfl) dX10_found_37 ?_
        obtain ⟨hk11, hf⟩ := zite hf
        obtain ⟨r_12, hr_12, hf⟩ := zbd hf
        refine a_get X zf2 hk11 1 (by decide) w_f_RX10_164 rfl (zfv_r hr_12 rfl) dX10_found_40 ?_
        obtain ⟨hk13, hf⟩ := zite hf
        obtain ⟨v15, h14, hch14, hf⟩ := zc2_e hf
        refine a_callV X r 1 (sX10_firstWrong hch14) zf10 hk13 ydX10_firstWrong w_ml_RX10_245 w_instanceMethod_X10_firstWrong w_sel_X10_firstWrong w_ini_RX10 w_code_X10_firstWrong (by rw [hRf, hRl]; decide) rfl (st := []) rfl rfl (Nat.le_of_ble_eq_true rfl) dX10_found_43 ?_
        refine a_bipush X (v := -2) dX10_found_46 (by decide) ?_
        refine a_icmp_ne X 57 dX10_found_48 (by decide) (fun hq => ?_) (fun hq => ?_)
        · have hf := zneg hq hf
          obtain ⟨y16, ey16⟩ : ∃ y : Int32, y = x2_20 + (1 : Int32) := ⟨_, rfl⟩
          have hf := zlet_n ey16 hf
          refine a_iinc X (j := 2) [(2, .int y16), (0, .ref (base + r0)), (1, .int x1_20)] dX10_found_57 rfl (by rw [ey16]; rfl) (by decide) rfl ?_
          refine a_goto X 20 dX10_found_60 (by decide) ?_
          cases hf
          exact a_sub [1, 2, 0] rfl (hc0 rfl)
        · have hf := zpos hq hf
          refine a_iload_n X 1 dX10_found_51 rfl ?_
          refine a_iconst X (v := 1) dX10_found_52 (by decide) ?_
          refine a_iload_n X 2 dX10_found_53 rfl ?_
          refine a_ishl X dX10_found_54 ?_
          refine a_ior X dX10_found_55 ?_
          refine a_topi (fun y17 ey17 => ?_)
          have hf := zlet_n ey17 hf
          refine a_istore_n X [(1, .int y17), (0, .ref (base + r0)), (2, .int x2_20)] dX10_found_56 (by decide) rfl ?_
          obtain ⟨y18, ey18⟩ : ∃ y : Int32, y = x2_20 + (1 : Int32) := ⟨_, rfl⟩
          have hf := zlet_n ey18 hf
          refine a_iinc X (j := 2) [(2, .int y18), (1, .int y17), (0, .ref (base + r0))] dX10_found_57 rfl (by rw [ey18]; rfl) (by decide) rfl ?_
          refine a_goto X 20 dX10_found_60 (by decide) ?_
          cases hf
          exact a_sub [2, 1, 0] rfl (hc0 rfl)
    · obtain ⟨ee, x1_k20, x2_k20, h_k20⟩ := qq
      have hf : kX10_found_20 h r0 ee x1_k20 x2_k20 h_k20 = some (rE, hE) := hf
      unfold kX10_found_20 at hf
      show zGA p l e R s m args below meth c (MQ below (zQA D cA base h hE (some (.int rE))) args s (zNC - zN h) (zNS - zS h) (zA base)) 3 D cA base h 63 [(0, .ref (base + r0)), (1, .int x1_k20)] [] h_k20
      refine a_aload_n X 0 dX10_found_63 rfl ?_
      refine a_iload_n X 1 dX10_found_64 rfl ?_
      obtain ⟨hk19, hf⟩ := zite hf
      obtain ⟨v21, h20, hch20, hf⟩ := zc2_e hf
      refine a_callV X r 1 (sX10_answer hch20) zf10 hk19 ydX10_answer w_ml_RX10_84 w_instanceMethod_X10_answer w_sel_X10_answer w_ini_RX10 w_code_X10_answer (by rw [hRf, hRl]; decide) rfl (st := []) rfl rfl (Nat.le_of_ble_eq_true rfl) dX10_found_65 ?_
      obtain ⟨rfl, rfl⟩ := zsm hf
      exact a_iret X hr dX10_found_68
  · have hf := zpos hq hf
    refine a_aload_n X 0 dX10_found_10 rfl ?_
    refine a_iconst X (v := 1) dX10_found_11 (by decide) ?_
    obtain ⟨v23, h22, hch22, hf⟩ := zc2_e hf
    refine a_callV X r 1 (sX10_refuse hch22) zf10 hk1 ydX10_refuse w_ml_RX10_56 w_instanceMethod_X10_refuse w_sel_X10_refuse w_ini_RX10 w_code_X10_refuse (by rw [hRf, hRl]; decide) rfl (st := []) rfl rfl (Nat.le_of_ble_eq_true rfl) dX10_found_12 ?_
    obtain ⟨rfl, rfl⟩ := zsm hf
    exact a_iret X hr dX10_found_15

set_option maxHeartbeats 4000000 in
set_option maxRecDepth 100000 in
theorem sX10_apart {l : Launch} {D : va_G} {cA : Nat → ClassId} {base : Nat} {sA : Nat → Nat} {r0 : Nat} {x1 : Int32} {x2 : Int32} {h hE : Zh} {rE : Int32} (hf : fX10_apart r0 x1 x2 h = some (rE, hE)) : zCA l yX10_apart cX10_apart 3 (some .int) 7 170 D cA base sA [.ref (base + r0), .int x1, .int x2] h (some (.int rE)) hE := by
  refine a_entry RX10 (by decide) rfl (Nat.le_of_ble_eq_true rfl) ?_
  intro p e R s m args below meth c hRf hRl r hin X hr
  unfold fX10_apart at hf
  have hf := zlet_n (x := h) rfl hf
  show zGA p l e R s m args below meth c (MQ below (zQA D cA base h hE (some (.int rE))) args s (zNC - zN h) (zNS - zS h) (zA base)) 3 D cA base h 0 [(0, .ref (base + r0)), (1, .int x1), (2, .int x2)] [] h
  refine a_aload_n X 0 dX10_apart_0 rfl ?_
  refine a_iload_n X 1 dX10_apart_1 rfl ?_
  obtain ⟨hk1, hf⟩ := zite hf
  obtain ⟨v3, h2, hch2, hf⟩ := zc2_e hf
  refine a_callV X r 1 (sX10_noRule hch2) zf10 hk1 ydX10_noRule w_ml_RX10_157 w_instanceMethod_X10_noRule w_sel_X10_noRule w_ini_RX10 w_code_X10_noRule (by rw [hRf, hRl]; decide) rfl (st := []) rfl rfl (Nat.le_of_ble_eq_true rfl) dX10_apart_2 ?_
  refine a_if_ne X 21 dX10_apart_5 (by decide) (fun hq => ?_) (fun hq => ?_)
  · have hf := zneg hq hf
    refine a_aload_n X 0 dX10_apart_21 rfl ?_
    refine a_iconst X (v := 1) dX10_apart_22 (by decide) ?_
    obtain ⟨hk4, hf⟩ := zite hf
    obtain ⟨v6, h5, hch5, hf⟩ := zc2_e hf
    refine a_callV X r 1 (sX10_refuse hch5) zf10 hk4 ydX10_refuse w_ml_RX10_56 w_instanceMethod_X10_refuse w_sel_X10_refuse w_ini_RX10 w_code_X10_refuse (by rw [hRf, hRl]; decide) rfl (st := []) rfl rfl (Nat.le_of_ble_eq_true rfl) dX10_apart_23 ?_
    obtain ⟨rfl, rfl⟩ := zsm hf
    exact a_iret X hr dX10_apart_26
  · have hf := zpos hq hf
    refine a_aload_n X 0 dX10_apart_8 rfl ?_
    refine a_iload_n X 2 dX10_apart_9 rfl ?_
    obtain ⟨hk7, hf⟩ := zite hf
    obtain ⟨v9, h8, hch8, hf⟩ := zc2_e hf
    refine a_callV X r 1 (sX10_noRule hch8) zf10 hk7 ydX10_noRule w_ml_RX10_157 w_instanceMethod_X10_noRule w_sel_X10_noRule w_ini_RX10 w_code_X10_noRule (by rw [hRf, hRl]; decide) rfl (st := []) rfl rfl (Nat.le_of_ble_eq_true rfl) dX10_apart_10 ?_
    refine a_if_ne X 21 dX10_apart_13 (by decide) (fun hq => ?_) (fun hq => ?_)
    · have hf := zneg hq hf
      refine a_aload_n X 0 dX10_apart_21 rfl ?_
      refine a_iconst X (v := 1) dX10_apart_22 (by decide) ?_
      obtain ⟨hk10, hf⟩ := zite hf
      obtain ⟨v12, h11, hch11, hf⟩ := zc2_e hf
      refine a_callV X r 1 (sX10_refuse hch11) zf10 hk10 ydX10_refuse w_ml_RX10_56 w_instanceMethod_X10_refuse w_sel_X10_refuse w_ini_RX10 w_code_X10_refuse (by rw [hRf, hRl]; decide) rfl (st := []) rfl rfl (Nat.le_of_ble_eq_true rfl) dX10_apart_23 ?_
      obtain ⟨rfl, rfl⟩ := zsm hf
      exact a_iret X hr dX10_apart_26
    · have hf := zpos hq hf
      refine a_iload_n X 1 dX10_apart_16 rfl ?_
      refine a_iload_n X 2 dX10_apart_17 rfl ?_
      refine a_icmp_ne X 27 dX10_apart_18 (by decide) (fun hq => ?_) (fun hq => ?_)
      · have hf := zneg hq hf
        refine a_aload_n X 0 dX10_apart_27 rfl ?_
        refine a_aload_n X 0 dX10_apart_28 rfl ?_
        obtain ⟨hk13, hf⟩ := zite hf
        obtain ⟨r_14, hr_14, hf⟩ := zbd hf
        refine a_get X zf10 hk13 5 (by decide) w_f_RX10_33 rfl (zfv_r hr_14 rfl) dX10_apart_29 ?_
        refine a_aload_n X 0 dX10_apart_32 rfl ?_
        obtain ⟨r_15, hr_15, hf⟩ := zbd hf
        refine a_get X zf10 hk13 5 (by decide) w_f_RX10_33 rfl (zfv_r hr_15 rfl) dX10_apart_33 ?_
        refine a_iload_n X 1 dX10_apart_36 rfl ?_
        obtain ⟨hk16, hf⟩ := zite hf
        obtain ⟨v18, h17, hch17, hf⟩ := zc2_e hf
        refine a_callVA X r 1 (sX4_laidBy hch17) zf4 hk16 ydX4_laidBy w_ml_RX10_160 w_instanceMethod_X4_laidBy w_sel_X4_laidBy w_ini_RX4 w_code_X4_laidBy (by rw [hRf, hRl]; decide) rfl (st := [.ref (base + r_14), .ref (base + r0)]) rfl rfl (Nat.le_of_ble_eq_true rfl) dX10_apart_37 ?_
        refine a_aload_n X 0 dX10_apart_40 rfl ?_
        obtain ⟨hk19, hf⟩ := zite hf
        obtain ⟨r_20, hr_20, hf⟩ := zbd hf
        refine a_get X zf10 hk19 5 (by decide) w_f_RX10_33 rfl (zfv_r hr_20 rfl) dX10_apart_41 ?_
        refine a_iload_n X 2 dX10_apart_44 rfl ?_
        obtain ⟨hk21, hf⟩ := zite hf
        obtain ⟨v23, h22, hch22, hf⟩ := zc2_e hf
        refine a_callVA X r 1 (sX4_laidBy hch22) zf4 hk21 ydX4_laidBy w_ml_RX10_160 w_instanceMethod_X4_laidBy w_sel_X4_laidBy w_ini_RX4 w_code_X4_laidBy (by rw [hRf, hRl]; decide) rfl (st := [.ref (base + v18), .ref (base + r_14), .ref (base + r0)]) rfl rfl (Nat.le_of_ble_eq_true rfl) dX10_apart_45 ?_
        obtain ⟨hk24, hf⟩ := zite hf
        obtain ⟨v26, h25, hch25, hf⟩ := zc2_e hf
        refine a_callV X r 2 (sX4_handsApart hch25) zf4 hk24 ydX4_handsApart w_ml_RX10_248 w_instanceMethod_X4_handsApart w_sel_X4_handsApart w_ini_RX4 w_code_X4_handsApart (by rw [hRf, hRl]; decide) rfl (st := [.ref (base + r0)]) rfl rfl (Nat.le_of_ble_eq_true rfl) dX10_apart_48 ?_
        obtain ⟨hk27, hf⟩ := zite hf
        obtain ⟨v29, h28, hch28, hf⟩ := zc2_e hf
        refine a_callV X r 1 (sX10_answer hch28) zf10 hk27 ydX10_answer w_ml_RX10_84 w_instanceMethod_X10_answer w_sel_X10_answer w_ini_RX10 w_code_X10_answer (by rw [hRf, hRl]; decide) rfl (st := []) rfl rfl (Nat.le_of_ble_eq_true rfl) dX10_apart_51 ?_
        obtain ⟨rfl, rfl⟩ := zsm hf
        exact a_iret X hr dX10_apart_54
      · have hf := zpos hq hf
        refine a_aload_n X 0 dX10_apart_21 rfl ?_
        refine a_iconst X (v := 1) dX10_apart_22 (by decide) ?_
        obtain ⟨hk30, hf⟩ := zite hf
        obtain ⟨v32, h31, hch31, hf⟩ := zc2_e hf
        refine a_callV X r 1 (sX10_refuse hch31) zf10 hk30 ydX10_refuse w_ml_RX10_56 w_instanceMethod_X10_refuse w_sel_X10_refuse w_ini_RX10 w_code_X10_refuse (by rw [hRf, hRl]; decide) rfl (st := []) rfl rfl (Nat.le_of_ble_eq_true rfl) dX10_apart_23 ?_
        obtain ⟨rfl, rfl⟩ := zsm hf
        exact a_iret X hr dX10_apart_26

set_option maxHeartbeats 4000000 in
set_option maxRecDepth 100000 in
theorem sX10_mean {l : Launch} {D : va_G} {cA : Nat → ClassId} {base : Nat} {sA : Nat → Nat} {r0 : Nat} {x1 : Int32} {x2 : Int32} {x3 : Int32} {h hE : Zh} {rE : Int32} (hf : fX10_mean r0 x1 x2 x3 h = some (rE, hE)) : zCA l yX10_mean cX10_mean 7 (some .int) 7 170 D cA base sA [.ref (base + r0), .int x1, .int x2, .int x3] h (some (.int rE)) hE := by
  refine a_entry RX10 (by decide) rfl (Nat.le_of_ble_eq_true rfl) ?_
  intro p e R s m args below meth c hRf hRl r hin X hr
  unfold fX10_mean at hf
  have hf := zlet_n (x := h) rfl hf
  show zGA p l e R s m args below meth c (MQ below (zQA D cA base h hE (some (.int rE))) args s (zNC - zN h) (zNS - zS h) (zA base)) 7 D cA base h 0 [(0, .ref (base + r0)), (1, .int x1), (2, .int x2), (3, .int x3)] [] h
  refine a_aload_n X 0 dX10_mean_0 rfl ?_
  refine a_iload_n X 1 dX10_mean_1 rfl ?_
  obtain ⟨hk1, hf⟩ := zite hf
  obtain ⟨v3, h2, hch2, hf⟩ := zc2_e hf
  refine a_callV X r 1 (sX10_noRule hch2) zf10 hk1 ydX10_noRule w_ml_RX10_157 w_instanceMethod_X10_noRule w_sel_X10_noRule w_ini_RX10 w_code_X10_noRule (by rw [hRf, hRl]; decide) rfl (st := []) rfl rfl (Nat.le_of_ble_eq_true rfl) dX10_mean_2 ?_
  refine a_if_ne X 21 dX10_mean_5 (by decide) (fun hq => ?_) (fun hq => ?_)
  · have hf := zneg hq hf
    refine a_aload_n X 0 dX10_mean_21 rfl ?_
    refine a_iconst X (v := 1) dX10_mean_22 (by decide) ?_
    obtain ⟨hk4, hf⟩ := zite hf
    obtain ⟨v6, h5, hch5, hf⟩ := zc2_e hf
    refine a_callV X r 1 (sX10_refuse hch5) zf10 hk4 ydX10_refuse w_ml_RX10_56 w_instanceMethod_X10_refuse w_sel_X10_refuse w_ini_RX10 w_code_X10_refuse (by rw [hRf, hRl]; decide) rfl (st := []) rfl rfl (Nat.le_of_ble_eq_true rfl) dX10_mean_23 ?_
    obtain ⟨rfl, rfl⟩ := zsm hf
    exact a_iret X hr dX10_mean_26
  · have hf := zpos hq hf
    refine a_aload_n X 0 dX10_mean_8 rfl ?_
    refine a_iload_n X 2 dX10_mean_9 rfl ?_
    obtain ⟨hk7, hf⟩ := zite hf
    obtain ⟨v9, h8, hch8, hf⟩ := zc2_e hf
    refine a_callV X r 1 (sX10_noRule hch8) zf10 hk7 ydX10_noRule w_ml_RX10_157 w_instanceMethod_X10_noRule w_sel_X10_noRule w_ini_RX10 w_code_X10_noRule (by rw [hRf, hRl]; decide) rfl (st := []) rfl rfl (Nat.le_of_ble_eq_true rfl) dX10_mean_10 ?_
    refine a_if_ne X 21 dX10_mean_13 (by decide) (fun hq => ?_) (fun hq => ?_)
    · have hf := zneg hq hf
      refine a_aload_n X 0 dX10_mean_21 rfl ?_
      refine a_iconst X (v := 1) dX10_mean_22 (by decide) ?_
      obtain ⟨hk10, hf⟩ := zite hf
      obtain ⟨v12, h11, hch11, hf⟩ := zc2_e hf
      refine a_callV X r 1 (sX10_refuse hch11) zf10 hk10 ydX10_refuse w_ml_RX10_56 w_instanceMethod_X10_refuse w_sel_X10_refuse w_ini_RX10 w_code_X10_refuse (by rw [hRf, hRl]; decide) rfl (st := []) rfl rfl (Nat.le_of_ble_eq_true rfl) dX10_mean_23 ?_
      obtain ⟨rfl, rfl⟩ := zsm hf
      exact a_iret X hr dX10_mean_26
    · have hf := zpos hq hf
      refine a_iload_n X 1 dX10_mean_16 rfl ?_
      refine a_iload_n X 2 dX10_mean_17 rfl ?_
      refine a_icmp_ne X 27 dX10_mean_18 (by decide) (fun hq => ?_) (fun hq => ?_)
      · have hf := zneg hq hf
        refine a_aload_n X 0 dX10_mean_27 rfl ?_
        obtain ⟨hk13, hf⟩ := zite hf
        obtain ⟨r_14, hr_14, hf⟩ := zbd hf
        refine a_get X zf10 hk13 5 (by decide) w_f_RX10_33 rfl (zfv_r hr_14 rfl) dX10_mean_28 ?_
        refine a_aload_n X 0 dX10_mean_31 rfl ?_
        obtain ⟨r_15, hr_15, hf⟩ := zbd hf
        refine a_get X zf10 hk13 5 (by decide) w_f_RX10_33 rfl (zfv_r hr_15 rfl) dX10_mean_32 ?_
        refine a_iload_n X 1 dX10_mean_35 rfl ?_
        obtain ⟨hk16, hf⟩ := zite hf
        obtain ⟨v18, h17, hch17, hf⟩ := zc2_e hf
        refine a_callVA X r 1 (sX4_laidBy hch17) zf4 hk16 ydX4_laidBy w_ml_RX10_160 w_instanceMethod_X4_laidBy w_sel_X4_laidBy w_ini_RX4 w_code_X4_laidBy (by rw [hRf, hRl]; decide) rfl (st := [.ref (base + r_14)]) rfl rfl (Nat.le_of_ble_eq_true rfl) dX10_mean_36 ?_
        refine a_aload_n X 0 dX10_mean_39 rfl ?_
        obtain ⟨hk19, hf⟩ := zite hf
        obtain ⟨r_20, hr_20, hf⟩ := zbd hf
        refine a_get X zf10 hk19 5 (by decide) w_f_RX10_33 rfl (zfv_r hr_20 rfl) dX10_mean_40 ?_
        refine a_iload_n X 2 dX10_mean_43 rfl ?_
        obtain ⟨hk21, hf⟩ := zite hf
        obtain ⟨v23, h22, hch22, hf⟩ := zc2_e hf
        refine a_callVA X r 1 (sX4_laidBy hch22) zf4 hk21 ydX4_laidBy w_ml_RX10_160 w_instanceMethod_X4_laidBy w_sel_X4_laidBy w_ini_RX4 w_code_X4_laidBy (by rw [hRf, hRl]; decide) rfl (st := [.ref (base + v18), .ref (base + r_14)]) rfl rfl (Nat.le_of_ble_eq_true rfl) dX10_mean_44 ?_
        obtain ⟨hk24, hf⟩ := zite hf
        obtain ⟨v26, h25, hch25, hf⟩ := zc2_e hf
        refine a_callV X r 2 (sX4_handsApart hch25) zf4 hk24 ydX4_handsApart w_ml_RX10_248 w_instanceMethod_X4_handsApart w_sel_X4_handsApart w_ini_RX4 w_code_X4_handsApart (by rw [hRf, hRl]; decide) rfl (st := []) rfl rfl (Nat.le_of_ble_eq_true rfl) dX10_mean_47 ?_
        refine a_istore X [(4, .int v26), (0, .ref (base + r0)), (1, .int x1), (2, .int x2), (3, .int x3)] dX10_mean_50 (by decide) rfl ?_
        refine a_iload X 0 dX10_mean_52 rfl ?_
        refine a_if_ne X 64 dX10_mean_54 (by decide) (fun hq => ?_) (fun hq => ?_)
        · have hf := zneg hq hf
          refine a_aload_n X 1 dX10_mean_64 rfl ?_
          obtain ⟨hk27, hf⟩ := zite hf
          obtain ⟨r_28, hr_28, hf⟩ := zbd hf
          refine a_get X zf10 hk27 3 (by decide) w_f_RX10_23 rfl (zfv_r hr_28 rfl) dX10_mean_65 ?_
          obtain ⟨hk29, hf⟩ := zite hf
          obtain ⟨r_30, hr_30, hf⟩ := zbd hf
          refine a_get X zf9 hk29 1 (by decide) w_f_RX10_94 rfl (zfv_r hr_30 rfl) dX10_mean_68 ?_
          obtain ⟨hk31, hf⟩ := zite hf
          refine a_get X zf0 hk31 9 (by decide) w_f_RX10_98 rfl rfl dX10_mean_71 ?_
          refine a_topi (fun y32 ey32 => ?_)
          have hf := zlet_n ey32 hf
          refine a_istore X [(5, .int y32), (4, .int v26), (0, .ref (base + r0)), (1, .int x1), (2, .int x2), (3, .int x3)] dX10_mean_74 (by decide) rfl ?_
          refine a_iload X 0 dX10_mean_76 rfl ?_
          refine a_iload X 1 dX10_mean_78 rfl ?_
          obtain ⟨v34, h33, hch33, hf⟩ := zc2_e hf
          refine a_callS X r 2 (sX10_commonDivisor hch33) ysX10_commonDivisor w_ml_RX10_252 w_static_X10_commonDivisor w_ini_RX10 w_code_X10_commonDivisor (by rw [hRf, hRl]; decide) rfl (st := []) rfl rfl (Nat.le_of_ble_eq_true rfl) dX10_mean_80 ?_
          refine a_istore X [(6, .int v34), (5, .int y32), (4, .int v26), (0, .ref (base + r0)), (1, .int x1), (2, .int x2), (3, .int x3)] dX10_mean_83 (by decide) rfl ?_
          refine a_aload_n X 3 dX10_mean_85 rfl ?_
          refine a_iload_n X 6 dX10_mean_86 rfl ?_
          refine a_if_eq X 95 dX10_mean_87 (by decide) (fun hq => ?_) (fun hq => ?_)
          · have hf := zpos hq hf
            refine a_iload X 1 dX10_mean_95 rfl ?_
            refine a_iload X 0 dX10_mean_97 rfl ?_
            obtain ⟨hn35, hf⟩ := zite hf
            refine a_idiv X hn35 dX10_mean_99 ?_
            obtain ⟨hk36, hf⟩ := zite hf
            obtain ⟨v38, h37, hch37, hf⟩ := zc2_e hf
            refine a_callV X r 1 (sX10_answer hch37) zf10 hk36 ydX10_answer w_ml_RX10_84 w_instanceMethod_X10_answer w_sel_X10_answer w_ini_RX10 w_code_X10_answer (by rw [hRf, hRl]; decide) rfl (st := []) rfl rfl (Nat.le_of_ble_eq_true rfl) dX10_mean_100 ?_
            obtain ⟨rfl, rfl⟩ := zsm hf
            exact a_iret X hr dX10_mean_103
          · have hf := zneg hq hf
            refine a_iload X 2 dX10_mean_90 rfl ?_
            refine a_goto X 97 dX10_mean_92 (by decide) ?_
            refine a_iload X 0 dX10_mean_97 rfl ?_
            obtain ⟨hn39, hf⟩ := zite hf
            refine a_idiv X hn39 dX10_mean_99 ?_
            obtain ⟨hk40, hf⟩ := zite hf
            obtain ⟨v42, h41, hch41, hf⟩ := zc2_e hf
            refine a_callV X r 1 (sX10_answer hch41) zf10 hk40 ydX10_answer w_ml_RX10_84 w_instanceMethod_X10_answer w_sel_X10_answer w_ini_RX10 w_code_X10_answer (by rw [hRf, hRl]; decide) rfl (st := []) rfl rfl (Nat.le_of_ble_eq_true rfl) dX10_mean_100 ?_
            obtain ⟨rfl, rfl⟩ := zsm hf
            exact a_iret X hr dX10_mean_103
        · have hf := zpos hq hf
          refine a_aload_n X 1 dX10_mean_57 rfl ?_
          refine a_bipush X (v := 6) dX10_mean_58 (by decide) ?_
          obtain ⟨hk43, hf⟩ := zite hf
          obtain ⟨v45, h44, hch44, hf⟩ := zc2_e hf
          refine a_callV X r 1 (sX10_refuse hch44) zf10 hk43 ydX10_refuse w_ml_RX10_56 w_instanceMethod_X10_refuse w_sel_X10_refuse w_ini_RX10 w_code_X10_refuse (by rw [hRf, hRl]; decide) rfl (st := []) rfl rfl (Nat.le_of_ble_eq_true rfl) dX10_mean_60 ?_
          obtain ⟨rfl, rfl⟩ := zsm hf
          exact a_iret X hr dX10_mean_63
      · have hf := zpos hq hf
        refine a_aload_n X 0 dX10_mean_21 rfl ?_
        refine a_iconst X (v := 1) dX10_mean_22 (by decide) ?_
        obtain ⟨hk46, hf⟩ := zite hf
        obtain ⟨v48, h47, hch47, hf⟩ := zc2_e hf
        refine a_callV X r 1 (sX10_refuse hch47) zf10 hk46 ydX10_refuse w_ml_RX10_56 w_instanceMethod_X10_refuse w_sel_X10_refuse w_ini_RX10 w_code_X10_refuse (by rw [hRf, hRl]; decide) rfl (st := []) rfl rfl (Nat.le_of_ble_eq_true rfl) dX10_mean_23 ?_
        obtain ⟨rfl, rfl⟩ := zsm hf
        exact a_iret X hr dX10_mean_26

set_option maxHeartbeats 4000000 in
set_option maxRecDepth 100000 in
theorem sX10_hardest {l : Launch} {D : va_G} {cA : Nat → ClassId} {base : Nat} {sA : Nat → Nat} {r0 : Nat} {h hE : Zh} {rE : Int32} (hf : fX10_hardest r0 h = some (rE, hE)) : zCA l yX10_hardest cX10_hardest 7 (some .int) 7 170 D cA base sA [.ref (base + r0)] h (some (.int rE)) hE := by
  refine a_entry RX10 (by decide) rfl (Nat.le_of_ble_eq_true rfl) ?_
  intro p e R s m args below meth c hRf hRl r hin X hr
  unfold fX10_hardest at hf
  have hf := zlet_n (x := h) rfl hf
  show zGA p l e R s m args below meth c (MQ below (zQA D cA base h hE (some (.int rE))) args s (zNC - zN h) (zNS - zS h) (zA base)) 7 D cA base h 0 [(0, .ref (base + r0))] [] h
  refine a_aload_n X 0 dX10_hardest_0 rfl ?_
  obtain ⟨hk1, hf⟩ := zite hf
  obtain ⟨r_2, hr_2, hf⟩ := zbd hf
  refine a_get X zf10 hk1 3 (by decide) w_f_RX10_23 rfl (zfv_r hr_2 rfl) dX10_hardest_1 ?_
  obtain ⟨hk3, hf⟩ := zite hf
  refine a_get X zf9 hk3 0 (by decide) w_f_RX10_90 rfl rfl dX10_hardest_4 ?_
  refine a_if_ne X 16 dX10_hardest_7 (by decide) (fun hq => ?_) (fun hq => ?_)
  · have hf := zneg hq hf
    refine a_aload_n X 0 dX10_hardest_16 rfl ?_
    obtain ⟨r_4, hr_4, hf⟩ := zbd hf
    refine a_get X zf10 hk1 3 (by decide) w_f_RX10_23 rfl (zfv_r hr_4 rfl) dX10_hardest_17 ?_
    obtain ⟨hk5, hf⟩ := zite hf
    refine a_get X zf9 hk5 3 (by decide) w_f_RX10_81 rfl rfl dX10_hardest_20 ?_
    refine a_iconst X (v := 2) dX10_hardest_23 (by decide) ?_
    refine a_icmp_ge X 34 dX10_hardest_24 (by decide) (fun hq => ?_) (fun hq => ?_)
    · have hf := zpos hq hf
      refine a_iconst X (v := 0) dX10_hardest_34 (by decide) ?_
      refine a_istore_n X [(1, .int ((0 : Int32))), (0, .ref (base + r0))] dX10_hardest_35 (by decide) rfl ?_
      refine a_sipush X (v := 2001) dX10_hardest_36 (by decide) ?_
      refine a_istore_n X [(2, .int ((2001 : Int32))), (1, .int ((0 : Int32))), (0, .ref (base + r0))] dX10_hardest_39 (by decide) rfl ?_
      refine a_iconst X (v := 0) dX10_hardest_40 (by decide) ?_
      refine a_istore_n X [(3, .int ((0 : Int32))), (2, .int ((2001 : Int32))), (1, .int ((0 : Int32))), (0, .ref (base + r0))] dX10_hardest_41 (by decide) rfl ?_
      refine a_sub [3, 2, 1, 0] rfl ?_
      obtain ⟨qq, hlp, hf⟩ := zbd hf
      refine lp_snd (body := (fun q : Int32 × Int32 × Int32 × Zh => bX10_hardest_42 h r0 q.1 q.2.1 q.2.2.1 q.2.2.2)) (P := (fun q : Int32 × Int32 × Int32 × Zh => zGA p l e R s m args below meth c (MQ below (zQA D cA base h hE (some (.int rE))) args s (zNC - zN h) (zNS - zS h) (zA base)) 7 D cA base h 42 [(0, .ref (base + r0)), (1, .int q.1), (2, .int q.2.1), (3, .int q.2.2.1)] [] q.2.2.2)) (E := (fun (en : Nat) (q : Int32 × Int32 × Int32 × Zh) => zGA p l e R s m args below meth c (MQ below (zQA D cA base h hE (some (.int rE))) args s (zNC - zN h) (zNS - zS h) (zA base)) 7 D cA base h 131 [(0, .ref (base + r0)), (1, .int q.1)] [] q.2.2.2)) ?_ zB ((0 : Int32), ((2001 : Int32), ((0 : Int32), h))) qq.1 qq.2 hlp ?_
      · intro q e_42 q_42 hf hc0 hc1
        obtain ⟨x1_42, x2_42, x3_42, h_42⟩ := q
        have hf : bX10_hardest_42 h r0 x1_42 x2_42 x3_42 h_42 = some (e_42, q_42) := hf
        unfold bX10_hardest_42 at hf
        show zGA p l e R s m args below meth c (MQ below (zQA D cA base h hE (some (.int rE))) args s (zNC - zN h) (zNS - zS h) (zA base)) 7 D cA base h 42 [(0, .ref (base + r0)), (1, .int x1_42), (2, .int x2_42), (3, .int x3_42)] [] h_42
        refine a_iload_n X 3 dX10_hardest_42 rfl ?_
        refine a_aload_n X 0 dX10_hardest_43 rfl ?_
        obtain ⟨hk6, hf⟩ := zite hf
        obtain ⟨r_7, hr_7, hf⟩ := zbd hf
        refine a_get X zf10 hk6 3 (by decide) w_f_RX10_23 rfl (zfv_r hr_7 rfl) dX10_hardest_44 ?_
        obtain ⟨hk8, hf⟩ := zite hf
        refine a_get X zf9 hk8 3 (by decide) w_f_RX10_81 rfl rfl dX10_hardest_47 ?_
        refine a_icmp_ge X 131 dX10_hardest_50 (by decide) (fun hq => ?_) (fun hq => ?_)
        · have hf := zpos hq hf
          cases hf
          have hc1 := hc1 (by decide)
          exact a_sub [0, 1] rfl hc1
        · have hf := zneg hq hf
          refine a_aload_n X 0 dX10_hardest_53 rfl ?_
          obtain ⟨r_9, hr_9, hf⟩ := zbd hf
          refine a_get X zf10 hk6 5 (by decide) w_f_RX10_33 rfl (zfv_r hr_9 rfl) dX10_hardest_54 ?_
          refine a_iload_n X 3 dX10_hardest_57 rfl ?_
          obtain ⟨hk10, hf⟩ := zite hf
          obtain ⟨v12, h11, hch11, hf⟩ := zc2_e hf
          refine a_callVA X r 1 (sX4_laidBy hch11) zf4 hk10 ydX4_laidBy w_ml_RX10_160 w_instanceMethod_X4_laidBy w_sel_X4_laidBy w_ini_RX4 w_code_X4_laidBy (by rw [hRf, hRl]; decide) rfl (st := []) rfl rfl (Nat.le_of_ble_eq_true rfl) dX10_hardest_58 ?_
          refine a_astore X [(4, .ref (base + v12)), (0, .ref (base + r0)), (1, .int x1_42), (2, .int x2_42), (3, .int x3_42)] dX10_hardest_61 (by decide) rfl ?_
          refine a_iconst X (v := 0) dX10_hardest_63 (by decide) ?_
          refine a_istore X [(5, .int ((0 : Int32))), (4, .ref (base + v12)), (0, .ref (base + r0)), (1, .int x1_42), (2, .int x2_42), (3, .int x3_42)] dX10_hardest_64 (by decide) rfl ?_
          refine a_sub [2, 3, 4, 5, 1, 0] rfl ?_
          obtain ⟨qq, hlp, hf⟩ := zbd hf
          refine lp_snd (body := (fun q : Int32 × Int32 × Int32 × Zh => bX10_hardest_66 h r0 x3_42 v12 q.1 q.2.1 q.2.2.1 q.2.2.2)) (P := (fun q : Int32 × Int32 × Int32 × Zh => zGA p l e R s m args below meth c (MQ below (zQA D cA base h hE (some (.int rE))) args s (zNC - zN h) (zNS - zS h) (zA base)) 7 D cA base h 66 [(0, .ref (base + r0)), (1, .int q.1), (2, .int q.2.1), (3, .int x3_42), (4, .ref (base + v12)), (5, .int q.2.2.1)] [] q.2.2.2)) (E := (fun (en : Nat) (q : Int32 × Int32 × Int32 × Zh) => zGA p l e R s m args below meth c (MQ below (zQA D cA base h hE (some (.int rE))) args s (zNC - zN h) (zNS - zS h) (zA base)) 7 D cA base h 125 [(0, .ref (base + r0)), (1, .int q.1), (2, .int q.2.1), (3, .int x3_42)] [] q.2.2.2)) ?_ zB (x1_42, (x2_42, ((0 : Int32), h11))) qq.1 qq.2 hlp ?_
          · intro q e_66 q_66 hf hc0 hc1
            obtain ⟨x1_66, x2_66, x5_66, h_66⟩ := q
            have hf : bX10_hardest_66 h r0 x3_42 v12 x1_66 x2_66 x5_66 h_66 = some (e_66, q_66) := hf
            unfold bX10_hardest_66 at hf
            show zGA p l e R s m args below meth c (MQ below (zQA D cA base h hE (some (.int rE))) args s (zNC - zN h) (zNS - zS h) (zA base)) 7 D cA base h 66 [(0, .ref (base + r0)), (1, .int x1_66), (2, .int x2_66), (3, .int x3_42), (4, .ref (base + v12)), (5, .int x5_66)] [] h_66
            refine a_iload X 5 dX10_hardest_66 rfl ?_
            refine a_aload_n X 0 dX10_hardest_68 rfl ?_
            obtain ⟨hk13, hf⟩ := zite hf
            obtain ⟨r_14, hr_14, hf⟩ := zbd hf
            refine a_get X zf10 hk13 3 (by decide) w_f_RX10_23 rfl (zfv_r hr_14 rfl) dX10_hardest_69 ?_
            obtain ⟨hk15, hf⟩ := zite hf
            refine a_get X zf9 hk15 3 (by decide) w_f_RX10_81 rfl rfl dX10_hardest_72 ?_
            refine a_icmp_ge X 125 dX10_hardest_75 (by decide) (fun hq => ?_) (fun hq => ?_)
            · have hf := zpos hq hf
              cases hf
              have hc1 := hc1 (by decide)
              exact a_sub [0, 1, 2, 3] rfl hc1
            · have hf := zneg hq hf
              refine a_iload X 5 dX10_hardest_78 rfl ?_
              refine a_iload_n X 3 dX10_hardest_80 rfl ?_
              have hJ106 : ∀ (x1_106 : Int32) (x2_106 : Int32) (x5_106 : Int32) (t0_106 : Int32) (h_106 : Zh), jX10_hardest_106 h r0 x1_106 x2_106 x3_42 v12 x5_106 t0_106 h_106 = some (e_66, q_66) → zGA p l e R s m args below meth c (MQ below (zQA D cA base h hE (some (.int rE))) args s (zNC - zN h) (zNS - zS h) (zA base)) 7 D cA base h 106 [(0, .ref (base + r0)), (1, .int x1_106), (2, .int x2_106), (3, .int x3_42), (4, .ref (base + v12)), (5, .int x5_106)] [.int t0_106] h_106 := by
                intro x1_106 x2_106 x5_106 t0_106 h_106 hf
                unfold jX10_hardest_106 at hf
                refine a_istore X [(6, .int t0_106), (0, .ref (base + r0)), (1, .int x1_106), (2, .int x2_106), (3, .int x3_42), (4, .ref (base + v12)), (5, .int x5_106)] dX10_hardest_106 (by decide) rfl ?_
                refine a_iload X 0 dX10_hardest_108 rfl ?_
                refine a_iload_n X 3 dX10_hardest_110 rfl ?_
                refine a_icmp_ge X 119 dX10_hardest_111 (by decide) (fun hq => ?_) (fun hq => ?_)
                · have hf := zpos hq hf
                  obtain ⟨y16, ey16⟩ : ∃ y : Int32, y = x5_106 + (1 : Int32) := ⟨_, rfl⟩
                  have hf := zlet_n ey16 hf
                  refine a_iinc X (j := 6) [(5, .int y16), (6, .int t0_106), (0, .ref (base + r0)), (1, .int x1_106), (2, .int x2_106), (3, .int x3_42), (4, .ref (base + v12))] dX10_hardest_119 rfl (by rw [ey16]; rfl) (by decide) rfl ?_
                  refine a_goto X 66 dX10_hardest_122 (by decide) ?_
                  cases hf
                  exact a_sub [2, 3, 4, 5, 6, 0] rfl (hc0 rfl)
                · have hf := zneg hq hf
                  refine a_iload X 0 dX10_hardest_114 rfl ?_
                  refine a_istore_n X [(2, .int t0_106), (6, .int t0_106), (0, .ref (base + r0)), (1, .int x1_106), (3, .int x3_42), (4, .ref (base + v12)), (5, .int x5_106)] dX10_hardest_116 (by decide) rfl ?_
                  refine a_iload_n X 4 dX10_hardest_117 rfl ?_
                  refine a_istore_n X [(1, .int x3_42), (2, .int t0_106), (6, .int t0_106), (0, .ref (base + r0)), (3, .int x3_42), (4, .ref (base + v12)), (5, .int x5_106)] dX10_hardest_118 (by decide) rfl ?_
                  obtain ⟨y17, ey17⟩ : ∃ y : Int32, y = x5_106 + (1 : Int32) := ⟨_, rfl⟩
                  have hf := zlet_n ey17 hf
                  refine a_iinc X (j := 6) [(5, .int y17), (1, .int x3_42), (2, .int t0_106), (6, .int t0_106), (0, .ref (base + r0)), (3, .int x3_42), (4, .ref (base + v12))] dX10_hardest_119 rfl (by rw [ey17]; rfl) (by decide) rfl ?_
                  refine a_goto X 66 dX10_hardest_122 (by decide) ?_
                  cases hf
                  exact a_sub [4, 1, 2, 5, 6, 0] rfl (hc0 rfl)
              refine a_icmp_ne X 88 dX10_hardest_81 (by decide) (fun hq => ?_) (fun hq => ?_)
              · have hf := zneg hq hf
                refine a_aload_n X 0 dX10_hardest_88 rfl ?_
                obtain ⟨r_18, hr_18, hf⟩ := zbd hf
                refine a_get X zf10 hk13 5 (by decide) w_f_RX10_33 rfl (zfv_r hr_18 rfl) dX10_hardest_89 ?_
                refine a_aload X 4 dX10_hardest_92 rfl ?_
                refine a_aload_n X 0 dX10_hardest_94 rfl ?_
                obtain ⟨r_19, hr_19, hf⟩ := zbd hf
                refine a_get X zf10 hk13 5 (by decide) w_f_RX10_33 rfl (zfv_r hr_19 rfl) dX10_hardest_95 ?_
                refine a_iload X 5 dX10_hardest_98 rfl ?_
                obtain ⟨hk20, hf⟩ := zite hf
                obtain ⟨v22, h21, hch21, hf⟩ := zc2_e hf
                refine a_callVA X r 1 (sX4_laidBy hch21) zf4 hk20 ydX4_laidBy w_ml_RX10_160 w_instanceMethod_X4_laidBy w_sel_X4_laidBy w_ini_RX4 w_code_X4_laidBy (by rw [hRf, hRl]; decide) rfl (st := [.ref (base + v12), .ref (base + r_18)]) rfl rfl (Nat.le_of_ble_eq_true rfl) dX10_hardest_100 ?_
                obtain ⟨hk23, hf⟩ := zite hf
                obtain ⟨v25, h24, hch24, hf⟩ := zc2_e hf
                refine a_callV X r 2 (sX4_handsApart hch24) zf4 hk23 ydX4_handsApart w_ml_RX10_248 w_instanceMethod_X4_handsApart w_sel_X4_handsApart w_ini_RX4 w_code_X4_handsApart (by rw [hRf, hRl]; decide) rfl (st := []) rfl rfl (Nat.le_of_ble_eq_true rfl) dX10_hardest_103 ?_
                refine a_sub [0, 1, 2, 3, 4, 5] rfl ?_
                exact hJ106 _ _ _ _ _ hf
              · have hf := zpos hq hf
                refine a_iload_n X 2 dX10_hardest_84 rfl ?_
                refine a_goto X 106 dX10_hardest_85 (by decide) ?_
                refine a_sub [0, 1, 2, 3, 4, 5] rfl ?_
                exact hJ106 _ _ _ _ _ hf
          · obtain ⟨ee, x1_k66, x2_k66, x5_k66, h_k66⟩ := qq
            have hf : kX10_hardest_66 h r0 x3_42 ee x1_k66 x2_k66 x5_k66 h_k66 = some (e_42, q_42) := hf
            unfold kX10_hardest_66 at hf
            show zGA p l e R s m args below meth c (MQ below (zQA D cA base h hE (some (.int rE))) args s (zNC - zN h) (zNS - zS h) (zA base)) 7 D cA base h 125 [(0, .ref (base + r0)), (1, .int x1_k66), (2, .int x2_k66), (3, .int x3_42)] [] h_k66
            obtain ⟨y26, ey26⟩ : ∃ y : Int32, y = x3_42 + (1 : Int32) := ⟨_, rfl⟩
            have hf := zlet_n ey26 hf
            refine a_iinc X (j := 3) [(3, .int y26), (0, .ref (base + r0)), (1, .int x1_k66), (2, .int x2_k66)] dX10_hardest_125 rfl (by rw [ey26]; rfl) (by decide) rfl ?_
            refine a_goto X 42 dX10_hardest_128 (by decide) ?_
            cases hf
            exact a_sub [1, 2, 3, 0] rfl (hc0 rfl)
      · obtain ⟨ee, x1_k42, x2_k42, x3_k42, h_k42⟩ := qq
        have hf : kX10_hardest_42 h r0 ee x1_k42 x2_k42 x3_k42 h_k42 = some (rE, hE) := hf
        unfold kX10_hardest_42 at hf
        show zGA p l e R s m args below meth c (MQ below (zQA D cA base h hE (some (.int rE))) args s (zNC - zN h) (zNS - zS h) (zA base)) 7 D cA base h 131 [(0, .ref (base + r0)), (1, .int x1_k42)] [] h_k42
        refine a_aload_n X 0 dX10_hardest_131 rfl ?_
        refine a_iload_n X 1 dX10_hardest_132 rfl ?_
        obtain ⟨hk27, hf⟩ := zite hf
        obtain ⟨v29, h28, hch28, hf⟩ := zc2_e hf
        refine a_callV X r 1 (sX10_answer hch28) zf10 hk27 ydX10_answer w_ml_RX10_84 w_instanceMethod_X10_answer w_sel_X10_answer w_ini_RX10 w_code_X10_answer (by rw [hRf, hRl]; decide) rfl (st := []) rfl rfl (Nat.le_of_ble_eq_true rfl) dX10_hardest_133 ?_
        obtain ⟨rfl, rfl⟩ := zsm hf
        exact a_iret X hr dX10_hardest_136
    · have hf := zneg hq hf
      refine a_aload_n X 0 dX10_hardest_27 rfl ?_
      refine a_bipush X (v := 6) dX10_hardest_28 (by decide) ?_
      obtain ⟨v31, h30, hch30, hf⟩ := zc2_e hf
      refine a_callV X r 1 (sX10_refuse hch30) zf10 hk1 ydX10_refuse w_ml_RX10_56 w_instanceMethod_X10_refuse w_sel_X10_refuse w_ini_RX10 w_code_X10_refuse (by rw [hRf, hRl]; decide) rfl (st := []) rfl rfl (Nat.le_of_ble_eq_true rfl) dX10_hardest_30 ?_
      obtain ⟨rfl, rfl⟩ := zsm hf
      exact a_iret X hr dX10_hardest_33
  · have hf := zpos hq hf
    refine a_aload_n X 0 dX10_hardest_10 rfl ?_
    refine a_iconst X (v := 1) dX10_hardest_11 (by decide) ?_
    obtain ⟨v33, h32, hch32, hf⟩ := zc2_e hf
    refine a_callV X r 1 (sX10_refuse hch32) zf10 hk1 ydX10_refuse w_ml_RX10_56 w_instanceMethod_X10_refuse w_sel_X10_refuse w_ini_RX10 w_code_X10_refuse (by rw [hRf, hRl]; decide) rfl (st := []) rfl rfl (Nat.le_of_ble_eq_true rfl) dX10_hardest_12 ?_
    obtain ⟨rfl, rfl⟩ := zsm hf
    exact a_iret X hr dX10_hardest_15

set_option maxHeartbeats 4000000 in
set_option maxRecDepth 100000 in
theorem sX10_shows {l : Launch} {D : va_G} {cA : Nat → ClassId} {base : Nat} {sA : Nat → Nat} {r0 : Nat} {x1 : Int32} {x2 : Int32} {h hE : Zh} {rE : Int32} (hf : fX10_shows r0 x1 x2 h = some (rE, hE)) : zCA l yX10_shows cX10_shows 4 (some .int) 7 170 D cA base sA [.ref (base + r0), .int x1, .int x2] h (some (.int rE)) hE := by
  refine a_entry RX10 (by decide) rfl (Nat.le_of_ble_eq_true rfl) ?_
  intro p e R s m args below meth c hRf hRl r hin X hr
  unfold fX10_shows at hf
  have hf := zlet_n (x := h) rfl hf
  show zGA p l e R s m args below meth c (MQ below (zQA D cA base h hE (some (.int rE))) args s (zNC - zN h) (zNS - zS h) (zA base)) 4 D cA base h 0 [(0, .ref (base + r0)), (1, .int x1), (2, .int x2)] [] h
  refine a_aload_n X 0 dX10_shows_0 rfl ?_
  refine a_iload_n X 1 dX10_shows_1 rfl ?_
  obtain ⟨hk1, hf⟩ := zite hf
  obtain ⟨v3, h2, hch2, hf⟩ := zc2_e hf
  refine a_callV X r 1 (sX10_noRule hch2) zf10 hk1 ydX10_noRule w_ml_RX10_157 w_instanceMethod_X10_noRule w_sel_X10_noRule w_ini_RX10 w_code_X10_noRule (by rw [hRf, hRl]; decide) rfl (st := []) rfl rfl (Nat.le_of_ble_eq_true rfl) dX10_shows_2 ?_
  refine a_if_ne X 16 dX10_shows_5 (by decide) (fun hq => ?_) (fun hq => ?_)
  · have hf := zneg hq hf
    refine a_aload_n X 0 dX10_shows_16 rfl ?_
    refine a_iconst X (v := 1) dX10_shows_17 (by decide) ?_
    obtain ⟨hk4, hf⟩ := zite hf
    obtain ⟨v6, h5, hch5, hf⟩ := zc2_e hf
    refine a_callV X r 1 (sX10_refuse hch5) zf10 hk4 ydX10_refuse w_ml_RX10_56 w_instanceMethod_X10_refuse w_sel_X10_refuse w_ini_RX10 w_code_X10_refuse (by rw [hRf, hRl]; decide) rfl (st := []) rfl rfl (Nat.le_of_ble_eq_true rfl) dX10_shows_18 ?_
    obtain ⟨rfl, rfl⟩ := zsm hf
    exact a_iret X hr dX10_shows_21
  · have hf := zpos hq hf
    refine a_aload_n X 0 dX10_shows_8 rfl ?_
    refine a_iload_n X 2 dX10_shows_9 rfl ?_
    obtain ⟨hk7, hf⟩ := zite hf
    obtain ⟨v9, h8, hch8, hf⟩ := zc2_e hf
    refine a_callV X r 1 (sX10_noHand hch8) zf10 hk7 ydX10_noHand w_ml_RX10_106 w_instanceMethod_X10_noHand w_sel_X10_noHand w_ini_RX10 w_code_X10_noHand (by rw [hRf, hRl]; decide) rfl (st := []) rfl rfl (Nat.le_of_ble_eq_true rfl) dX10_shows_10 ?_
    refine a_if_eq X 22 dX10_shows_13 (by decide) (fun hq => ?_) (fun hq => ?_)
    · have hf := zpos hq hf
      refine a_aload_n X 0 dX10_shows_22 rfl ?_
      obtain ⟨hk10, hf⟩ := zite hf
      obtain ⟨r_11, hr_11, hf⟩ := zbd hf
      refine a_get X zf10 hk10 5 (by decide) w_f_RX10_33 rfl (zfv_r hr_11 rfl) dX10_shows_23 ?_
      refine a_iload_n X 1 dX10_shows_26 rfl ?_
      obtain ⟨hk12, hf⟩ := zite hf
      obtain ⟨v14, h13, hch13, hf⟩ := zc2_e hf
      refine a_callVA X r 1 (sX4_laidBy hch13) zf4 hk12 ydX4_laidBy w_ml_RX10_160 w_instanceMethod_X4_laidBy w_sel_X4_laidBy w_ini_RX4 w_code_X4_laidBy (by rw [hRf, hRl]; decide) rfl (st := []) rfl rfl (Nat.le_of_ble_eq_true rfl) dX10_shows_27 ?_
      obtain ⟨hk15, hf⟩ := zite hf
      obtain ⟨r_16, hr_16, hf⟩ := zbd hf
      refine a_get X zf2 hk15 1 (by decide) w_f_RX10_164 rfl (zfv_r hr_16 rfl) dX10_shows_30 ?_
      refine a_iload_n X 2 dX10_shows_33 rfl ?_
      obtain ⟨hk17, hf⟩ := zite hf
      obtain ⟨hi18, hf⟩ := zite hf
      refine a_iald X hk17 hi18 dX10_shows_34 ?_
      refine a_topi (fun y19 ey19 => ?_)
      have hf := zlet_n ey19 hf
      refine a_istore_n X [(3, .int y19), (0, .ref (base + r0)), (1, .int x1), (2, .int x2)] dX10_shows_35 (by decide) rfl ?_
      refine a_iload_n X 0 dX10_shows_36 rfl ?_
      refine a_if_ge X 47 dX10_shows_37 (by decide) (fun hq => ?_) (fun hq => ?_)
      · have hf := zpos hq hf
        refine a_aload_n X 1 dX10_shows_47 rfl ?_
        obtain ⟨hk20, hf⟩ := zite hf
        obtain ⟨r_21, hr_21, hf⟩ := zbd hf
        refine a_get X zf10 hk20 3 (by decide) w_f_RX10_23 rfl (zfv_r hr_21 rfl) dX10_shows_48 ?_
        obtain ⟨hk22, hf⟩ := zite hf
        obtain ⟨r_23, hr_23, hf⟩ := zbd hf
        refine a_get X zf9 hk22 4 (by decide) w_f_RX10_233 rfl (zfv_r hr_23 rfl) dX10_shows_51 ?_
        obtain ⟨hk24, hf⟩ := zite hf
        refine a_get X zf1 hk24 2 (by decide) w_f_RX10_239 rfl rfl dX10_shows_54 ?_
        refine a_bipush X (v := 20) dX10_shows_57 (by decide) ?_
        refine a_icmp_lt X 68 dX10_shows_59 (by decide) (fun hq => ?_) (fun hq => ?_)
        · have hf := zpos hq hf
          refine a_aload_n X 1 dX10_shows_68 rfl ?_
          obtain ⟨r_25, hr_25, hf⟩ := zbd hf
          refine a_get X zf10 hk20 3 (by decide) w_f_RX10_23 rfl (zfv_r hr_25 rfl) dX10_shows_69 ?_
          obtain ⟨hk26, hf⟩ := zite hf
          obtain ⟨r_27, hr_27, hf⟩ := zbd hf
          refine a_get X zf9 hk26 4 (by decide) w_f_RX10_233 rfl (zfv_r hr_27 rfl) dX10_shows_72 ?_
          refine a_iload_n X 3 dX10_shows_75 rfl ?_
          refine a_iload_n X 0 dX10_shows_76 rfl ?_
          obtain ⟨hk28, hf⟩ := zite hf
          obtain ⟨h29, hch29, hf⟩ := zbd hf
          refine a_callV X r 2 (sX1_add hch29) zf1 hk28 ydX1_add w_ml_RX10_258 w_instanceMethod_X1_add w_sel_X1_add w_ini_RX1 w_code_X1_add (by rw [hRf, hRl]; decide) rfl (st := []) rfl rfl (Nat.le_of_ble_eq_true rfl) dX10_shows_77 ?_
          refine a_aload_n X 1 dX10_shows_80 rfl ?_
          refine a_aload_n X 1 dX10_shows_81 rfl ?_
          obtain ⟨hk30, hf⟩ := zite hf
          obtain ⟨r_31, hr_31, hf⟩ := zbd hf
          refine a_get X zf10 hk30 3 (by decide) w_f_RX10_23 rfl (zfv_r hr_31 rfl) dX10_shows_82 ?_
          obtain ⟨hk32, hf⟩ := zite hf
          obtain ⟨r_33, hr_33, hf⟩ := zbd hf
          refine a_get X zf9 hk32 4 (by decide) w_f_RX10_233 rfl (zfv_r hr_33 rfl) dX10_shows_85 ?_
          obtain ⟨hk34, hf⟩ := zite hf
          refine a_get X zf1 hk34 2 (by decide) w_f_RX10_239 rfl rfl dX10_shows_88 ?_
          refine a_iconst X (v := 1) dX10_shows_91 (by decide) ?_
          refine a_isub X dX10_shows_92 ?_
          obtain ⟨v36, h35, hch35, hf⟩ := zc2_e hf
          refine a_callV X r 1 (sX10_answer hch35) zf10 hk30 ydX10_answer w_ml_RX10_84 w_instanceMethod_X10_answer w_sel_X10_answer w_ini_RX10 w_code_X10_answer (by rw [hRf, hRl]; decide) rfl (st := []) rfl rfl (Nat.le_of_ble_eq_true rfl) dX10_shows_93 ?_
          obtain ⟨rfl, rfl⟩ := zsm hf
          exact a_iret X hr dX10_shows_96
        · have hf := zneg hq hf
          refine a_aload_n X 1 dX10_shows_62 rfl ?_
          refine a_iconst X (v := 3) dX10_shows_63 (by decide) ?_
          obtain ⟨v38, h37, hch37, hf⟩ := zc2_e hf
          refine a_callV X r 1 (sX10_refuse hch37) zf10 hk20 ydX10_refuse w_ml_RX10_56 w_instanceMethod_X10_refuse w_sel_X10_refuse w_ini_RX10 w_code_X10_refuse (by rw [hRf, hRl]; decide) rfl (st := []) rfl rfl (Nat.le_of_ble_eq_true rfl) dX10_shows_64 ?_
          obtain ⟨rfl, rfl⟩ := zsm hf
          exact a_iret X hr dX10_shows_67
      · have hf := zneg hq hf
        refine a_aload_n X 1 dX10_shows_40 rfl ?_
        refine a_bipush X (v := 6) dX10_shows_41 (by decide) ?_
        obtain ⟨hk39, hf⟩ := zite hf
        obtain ⟨v41, h40, hch40, hf⟩ := zc2_e hf
        refine a_callV X r 1 (sX10_refuse hch40) zf10 hk39 ydX10_refuse w_ml_RX10_56 w_instanceMethod_X10_refuse w_sel_X10_refuse w_ini_RX10 w_code_X10_refuse (by rw [hRf, hRl]; decide) rfl (st := []) rfl rfl (Nat.le_of_ble_eq_true rfl) dX10_shows_43 ?_
        obtain ⟨rfl, rfl⟩ := zsm hf
        exact a_iret X hr dX10_shows_46
    · have hf := zneg hq hf
      refine a_aload_n X 0 dX10_shows_16 rfl ?_
      refine a_iconst X (v := 1) dX10_shows_17 (by decide) ?_
      obtain ⟨hk42, hf⟩ := zite hf
      obtain ⟨v44, h43, hch43, hf⟩ := zc2_e hf
      refine a_callV X r 1 (sX10_refuse hch43) zf10 hk42 ydX10_refuse w_ml_RX10_56 w_instanceMethod_X10_refuse w_sel_X10_refuse w_ini_RX10 w_code_X10_refuse (by rw [hRf, hRl]; decide) rfl (st := []) rfl rfl (Nat.le_of_ble_eq_true rfl) dX10_shows_18 ?_
      obtain ⟨rfl, rfl⟩ := zsm hf
      exact a_iret X hr dX10_shows_21

set_option maxHeartbeats 4000000 in
set_option maxRecDepth 100000 in
theorem sX11_init {l : Launch} {D : va_G} {cA : Nat → ClassId} {base : Nat} {sA : Nat → Nat} {r0 : Nat} {h hE : Zh} (hf : fX11_init r0 h = some hE) : zCA l yX11_init cX11_init 1 none 1 20 D cA base sA [.ref (base + r0)] h none hE := by
  refine a_entry RX11 (by decide) rfl (Nat.le_of_ble_eq_true rfl) ?_
  intro p e R s m args below meth c hRf hRl r hin X hr
  unfold fX11_init at hf
  have hf := zlet_n (x := h) rfl hf
  show zGA p l e R s m args below meth c (MQ below (zQA D cA base h hE none) args s (zNC - zN h) (zNS - zS h) (zA base)) 1 D cA base h 0 [(0, .ref (base + r0))] [] h
  refine a_aload_n X 0 dX11_init_0 rfl ?_
  refine a_objInit X r w_ol_RX11_3 w_ob2 w_ob3 (by rw [hRf]; decide) (by rw [hRl]; exact Nat.le_of_ble_eq_true rfl) dX11_init_1 ?_
  refine a_aload_n X 0 dX11_init_4 rfl ?_
  refine a_iconst X (v := 4) dX11_init_5 (by decide) ?_
  obtain ⟨hn3, hf⟩ := zite hf
  obtain ⟨hc1, hf⟩ := zite hf
  refine a_newa0 X r hn3 hc1 w_ac_int dX11_init_6 ?_
  refine a_hp (fun h2 eh2 => ?_)
  have hf := zlet_n eh2 hf
  obtain ⟨hk4, hf⟩ := zite hf
  refine a_putFR X hin rfl zf11 hk4 10 (by decide) w_f_RX11_9 rfl rfl rfl dX11_init_8 ?_
  refine a_hp (fun h5 eh5 => ?_)
  have hf := zlet_n eh5 hf
  refine a_aload_n X 0 dX11_init_11 rfl ?_
  refine a_bipush X (v := 45) dX11_init_12 (by decide) ?_
  obtain ⟨hn8, hf⟩ := zite hf
  obtain ⟨hc6, hf⟩ := zite hf
  refine a_newa0 X r hn8 hc6 w_ac_int dX11_init_14 ?_
  refine a_hp (fun h7 eh7 => ?_)
  have hf := zlet_n eh7 hf
  obtain ⟨hk9, hf⟩ := zite hf
  refine a_putFR X hin rfl zf11 hk9 11 (by decide) w_f_RX11_15 rfl rfl rfl dX11_init_16 ?_
  refine a_hp (fun h10 eh10 => ?_)
  have hf := zlet_n eh10 hf
  refine a_aload_n X 0 dX11_init_19 rfl ?_
  refine a_bipush X (v := 45) dX11_init_20 (by decide) ?_
  obtain ⟨hn13, hf⟩ := zite hf
  obtain ⟨hc11, hf⟩ := zite hf
  refine a_newa0 X r hn13 hc11 w_ac_int dX11_init_22 ?_
  refine a_hp (fun h12 eh12 => ?_)
  have hf := zlet_n eh12 hf
  obtain ⟨hk14, hf⟩ := zite hf
  refine a_putFR X hin rfl zf11 hk14 12 (by decide) w_f_RX11_18 rfl rfl rfl dX11_init_24 ?_
  refine a_hp (fun h15 eh15 => ?_)
  have hf := zlet_n eh15 hf
  refine a_aload_n X 0 dX11_init_27 rfl ?_
  refine a_bipush X (v := 9) dX11_init_28 (by decide) ?_
  obtain ⟨hn18, hf⟩ := zite hf
  obtain ⟨hc16, hf⟩ := zite hf
  refine a_newa0 X r hn18 hc16 w_ac_int dX11_init_30 ?_
  refine a_hp (fun h17 eh17 => ?_)
  have hf := zlet_n eh17 hf
  obtain ⟨hk19, hf⟩ := zite hf
  refine a_putFR X hin rfl zf11 hk19 13 (by decide) w_f_RX11_21 rfl rfl rfl dX11_init_32 ?_
  refine a_hp (fun h20 eh20 => ?_)
  have hf := zlet_n eh20 hf
  refine a_aload_n X 0 dX11_init_35 rfl ?_
  refine a_iconst X (v := 4) dX11_init_36 (by decide) ?_
  obtain ⟨hn23, hf⟩ := zite hf
  obtain ⟨hc21, hf⟩ := zite hf
  refine a_newa2 X r hn23 hc21 w_ac_long dX11_init_37 ?_
  refine a_hp (fun h22 eh22 => ?_)
  have hf := zlet_n eh22 hf
  obtain ⟨hk24, hf⟩ := zite hf
  refine a_putFR X hin rfl zf11 hk24 14 (by decide) w_f_RX11_24 rfl rfl rfl dX11_init_39 ?_
  refine a_hp (fun h25 eh25 => ?_)
  have hf := zlet_n eh25 hf
  cases hf
  exact a_vret X hr dX11_init_42

