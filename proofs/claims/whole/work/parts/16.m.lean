/-! FifthCard Reader step -/
def bX7_step_8 (g : Zh) (r0 : Nat)  (h : Zh) : Option (Nat × Zh) :=
  if (zI h r0 3) ≤ (zI h r0 9) then some (1, h) else (zR h r0 2).bind fun r_3 => if zK g r_3 = 101 then if zin (zI h r0 9) (zL g r_3) then if (zI h r_3 (zI h r0 9).toNatClampNeg) = ((32 : Int32)) then zlet (zsI h r0 9 ((zI h r0 9) + ((1 : Int32)))) fun h6 => some (0, h6) else some (1, h) else none else none
def jX7_step_176 (g : Zh) (r0 : Nat) (t0 : Int32) (t1 : Nat) (h : Zh) : Option Zh :=
  if zK g t1 = 7 then zlet (zsI h t1 8 t0) fun h13 => zlet (zsI h13 r0 10 ((zI h13 r0 10) + ((1 : Int32)))) fun h14 => some h14 else none
def jX7_step_154 (g : Zh) (r0 : Nat) (x1 : Int32) (h : Zh) : Option Zh :=
  if x1 = ((59 : Int32)) then jX7_step_176 g r0 ((3 : Int32)) r0 h else if x1 = ((44 : Int32)) then jX7_step_176 g r0 ((4 : Int32)) r0 h else jX7_step_176 g r0 ((5 : Int32)) r0 h
def jX7_step_118 (g : Zh) (r0 : Nat) (x1 : Int32) (h : Zh) : Option Zh :=
  if x1 < ((48 : Int32)) then jX7_step_154 g r0 x1 h else if ((57 : Int32)) < x1 then jX7_step_154 g r0 x1 h else zc2 (fX7_runLength r0 ((48 : Int32)) ((57 : Int32)) h) fun v16 h15 => if ((3 : Int32)) < v16 then zlet (zsI h15 r0 8 ((5 : Int32))) fun h17 => some h17 else zlet (zsI h15 r0 8 ((2 : Int32))) fun h18 => some h18
def kX7_step_8 (g : Zh) (r0 : Nat) (e : Nat)  (h : Zh) : Option Zh :=
  zlet (zsI h r0 10 (zI h r0 9)) fun h7 => if (zI h7 r0 9) < (zI h7 r0 3) then (zR h7 r0 2).bind fun r_8 => if zK g r_8 = 101 then if zin (zI h7 r0 9) (zL g r_8) then zlet (zI h7 r_8 (zI h7 r0 9).toNatClampNeg) fun y11 => if y11 < ((97 : Int32)) then jX7_step_118 g r0 y11 h7 else if ((122 : Int32)) < y11 then jX7_step_118 g r0 y11 h7 else zc2 (fX7_runLength r0 ((97 : Int32)) ((122 : Int32)) h7) fun v20 h19 => if ((8 : Int32)) < v20 then zlet (zsI h19 r0 8 ((5 : Int32))) fun h21 => some h21 else zlet (zsI h19 r0 8 ((1 : Int32))) fun h22 => some h22 else none else none else zlet (zsI h7 r0 8 ((0 : Int32))) fun h23 => some h23
def fX7_step (r0 : Nat) (h : Zh) : Option Zh := zlet h fun g =>
  if zK g r0 = 7 then zlet (zsI h r0 9 (zI h r0 10)) fun h2 => (lp (fun q : Zh => bX7_step_8 g r0 q) zB h2).bind fun q => kX7_step_8 g r0 q.1 q.2 else none
/-! FifthCard Reader isWhole -/
def jX7_isWhole_30 (g : Zh) (r0 : Nat) (h : Zh) : Option (Int32 × Zh) :=
  zc2 (fX7_fail r0 ((4 : Int32)) h) fun v3 h2 => if v3 = 0 then some ((0 : Int32), h2) else some ((1 : Int32), h2)
def fX7_isWhole (r0 : Nat) (x1 : Int32) (x2 : Int32) (h : Zh) : Option (Int32 × Zh) := zlet h fun g =>
  if zK g r0 = 7 then if (zI h r0 8) = ((2 : Int32)) then if (zI h r0 11) < x1 then jX7_isWhole_30 g r0 h else if (zI h r0 11) ≤ x2 then some ((1 : Int32), h) else jX7_isWhole_30 g r0 h else zc2 (fX7_fail r0 ((1 : Int32)) h) fun v5 h4 => if v5 = 0 ∨ v5 = 1 then some (v5, h4) else none else none
/-! FifthCard Reader isNameOf -/
def bX7_isNameOf_22 (g : Zh) (r0 : Nat) (x1 : Int32) (x2 : Int32) (h : Zh) : Option (Nat × Int32 × Zh) :=
  (zR h r0 6).bind fun r_5 => if zK g r_5 = 100 then if zin x1 (zL g r_5) then if (zI h r_5 x1.toNatClampNeg) ≤ x2 then some (2, (x2, h)) else (zR h r0 2).bind fun r_8 => if zK g r_8 = 101 then if zin ((zI h r0 9) + x2) (zL g r_8) then (zR h r0 2).bind fun r_11 => (zR h r0 5).bind fun r_12 => if zK g r_12 = 100 then if zin x1 (zL g r_12) then if zK g r_11 = 101 then if zin ((zI h r_12 x1.toNatClampNeg) + x2) (zL g r_11) then if (zI h r_8 ((zI h r0 9) + x2).toNatClampNeg) = (zI h r_11 ((zI h r_12 x1.toNatClampNeg) + x2).toNatClampNeg) then zlet (x2 + (1 : Int32)) fun y17 => some (0, (y17, h)) else some (1, (x2, h)) else none else none else none else none else none else none else none else none
def kX7_isNameOf_22 (g : Zh)  (e : Nat) (x2 : Int32) (h : Zh) : Option (Int32 × Zh) :=
  if e = 1 then some ((0 : Int32), h) else some ((1 : Int32), h)
def fX7_isNameOf (r0 : Nat) (x1 : Int32) (h : Zh) : Option (Int32 × Zh) := zlet h fun g =>
  if zK g r0 = 7 then (zR h r0 6).bind fun r_2 => if zK g r_2 = 100 then if zin x1 (zL g r_2) then if ((zI h r0 10) - (zI h r0 9)) = (zI h r_2 x1.toNatClampNeg) then (lp (fun q : Int32 × Zh => bX7_isNameOf_22 g r0 x1 q.1 q.2) zB ((0 : Int32), h)).bind fun q => kX7_isNameOf_22 g q.1 q.2.1 q.2.2 else some ((0 : Int32), h) else none else none else none
/-! FifthCard Reader isUntold -/
def fX7_isUntold (r0 : Nat) (x1 : Int32) (x2 : Int32) (h : Zh) : Option (Int32 × Zh) := zlet h fun g =>
  if zK g r0 = 7 then zc2 (fX7_isWhole r0 ((0 : Int32)) (x1 - ((1 : Int32))) h) fun v3 h2 => if v3 = 0 then some ((0 : Int32), h2) else if ((x2 >>> ((zI h2 r0 11) &&& 31)) &&& ((1 : Int32))) = 0 then some ((1 : Int32), h2) else zc2 (fX7_fail r0 ((3 : Int32)) h2) fun v5 h4 => if v5 = 0 then some ((0 : Int32), h4) else some ((1 : Int32), h4) else none
/-! FifthCard Reader readCards -/
def jX7_readCards_31 (g : Zh) (r0 : Nat) (x1 : Int32) (x2 : Int32) (x3 : Int32) (h : Zh) : Option (Nat × Int32 × Int32 × Zh) :=
  if zK g r0 = 7 then (zR h r0 4).bind fun r_2 => if zK g r_2 = 9 then (zR h r_2 1).bind fun r_4 => if zK g r_4 = 0 then zc2 (fX7_isUntold r0 (zI h r_4 0) x2 h) fun v7 h6 => if v7 = 0 then some (2, (x2, (x3, h6))) else (zR h6 r0 7).bind fun r_8 => if zK g r_8 = 100 then if zin x3 (zL g r_8) then zlet (zsI h6 r_8 x3.toNatClampNeg (zI h6 r0 11)) fun h11 => zlet (x2 ||| (((1 : Int32)) <<< ((zI h11 r0 11) &&& 31))) fun y12 => (fX7_step r0 h11).bind fun h13 => zlet (x3 + (1 : Int32)) fun y14 => some (0, (y12, (y14, h13))) else none else none else none else none else none
def bX7_readCards_4 (g : Zh) (r0 : Nat) (x1 : Int32) (x2 : Int32) (x3 : Int32) (h : Zh) : Option (Nat × Int32 × Int32 × Zh) :=
  if x1 ≤ x3 then some (3, (x2, (x3, h))) else if x3 ≤ 0 then jX7_readCards_31 g r0 x1 x2 x3 h else if zK g r0 = 7 then if (zI h r0 8) = ((4 : Int32)) then (fX7_step r0 h).bind fun h16 => jX7_readCards_31 g r0 x1 x2 x3 h16 else some (1, (x2, (x3, h))) else none
def kX7_readCards_4 (g : Zh) (r0 : Nat) (e : Nat) (x2 : Int32) (x3 : Int32) (h : Zh) : Option (Int32 × Zh) :=
  if e = 1 then if zK g r0 = 7 then zc2 (fX7_fail r0 ((1 : Int32)) h) fun v19 h18 => if v19 = 0 ∨ v19 = 1 then some (v19, h18) else none else none else if e = 2 then some ((0 : Int32), h) else some ((1 : Int32), h)
def fX7_readCards (r0 : Nat) (x1 : Int32) (h : Zh) : Option (Int32 × Zh) := zlet h fun g =>
  (lp (fun q : Int32 × Int32 × Zh => bX7_readCards_4 g r0 x1 q.1 q.2.1 q.2.2) zB ((0 : Int32), ((0 : Int32), h))).bind fun q => kX7_readCards_4 g r0 q.1 q.2.1 q.2.2.1 q.2.2.2
/-! FifthCard Reader readTilts -/
def bX7_readTilts_4 (g : Zh) (r0 : Nat) (x1 : Int32) (x2 : Int32) (x3 : Int32) (h : Zh) : Option (Nat × Int32 × Int32 × Zh) :=
  if zK g r0 = 7 then if (zI h r0 3) < x3 then some (3, (x2, (x3, h))) else zc2 (fX7_isUntold r0 x1 x2 h) fun v3 h2 => if v3 = 0 then some (1, (x2, (x3, h2))) else zlet (x2 ||| (((1 : Int32)) <<< ((zI h2 r0 11) &&& 31))) fun y4 => (fX7_step r0 h2).bind fun h5 => if (zI h5 r0 8) = ((4 : Int32)) then (fX7_step r0 h5).bind fun h6 => zlet (x3 + (1 : Int32)) fun y7 => some (0, (y4, (y7, h6))) else some (2, (y4, (x3, h5))) else none
def kX7_readTilts_4 (g : Zh)  (e : Nat) (x2 : Int32) (x3 : Int32) (h : Zh) : Option (Int32 × Zh) :=
  if e = 1 then some ((-1 : Int32), h) else if e = 2 then some (x2, h) else some ((-1 : Int32), h)
def fX7_readTilts (r0 : Nat) (x1 : Int32) (h : Zh) : Option (Int32 × Zh) := zlet h fun g =>
  (lp (fun q : Int32 × Int32 × Zh => bX7_readTilts_4 g r0 x1 q.1 q.2.1 q.2.2) zB ((0 : Int32), ((0 : Int32), h))).bind fun q => kX7_readTilts_4 g q.1 q.2.1 q.2.2.1 q.2.2.2
/-! FifthCard Told clear -/
def fX9_clear (r0 : Nat) (h : Zh) : Option Zh := zlet h fun g =>
  if zK g r0 = 9 then zlet (zsI h r0 0 ((0 : Int32))) fun h2 => (zR h2 r0 1).bind fun r_3 => if zK g r_3 = 0 then (fX0_clear r_3 h2).bind fun h5 => zlet (zsI h5 r0 3 ((0 : Int32))) fun h6 => (zR h6 r0 4).bind fun r_7 => if zK g r_7 = 1 then (fX1_clear r_7 h6).bind fun h9 => some h9 else none else none else none
/-! FifthCard putBytes -/
def bX10_putBytes_3 (g : Zh) (r0 : Nat) (x1 : Int32) (x2 : Int32) (h : Zh) : Option (Nat × Int32 × Zh) :=
  if x2 < 0 then some (1, (x2, h)) else if zK g r0 = 10 then (zR h r0 0).bind fun r_2 => if zK g r_2 = 101 then if zin (zI h r0 1) (zL g r_2) then zlet (zsI h r_2 (zI h r0 1).toNatClampNeg ((x1 >>> (x2 &&& 31)).toInt8.toInt32).toInt8.toInt32) fun h5 => zlet (zsI h5 r0 1 ((zI h5 r0 1) + ((1 : Int32)))) fun h6 => zlet (x2 + (-8 : Int32)) fun y7 => some (0, (y7, h6)) else none else none else none
def kX10_putBytes_3 (g : Zh)  (e : Nat) (x2 : Int32) (h : Zh) : Option Zh :=
  some h
def fX10_putBytes (r0 : Nat) (x1 : Int32) (h : Zh) : Option Zh := zlet h fun g =>
  (lp (fun q : Int32 × Zh => bX10_putBytes_3 g r0 x1 q.1 q.2) zB ((24 : Int32), h)).bind fun q => kX10_putBytes_3 g q.1 q.2.1 q.2.2
/-! FifthCard feed -/
def fX10_feed (r0 : Nat) (x1 : Int32) (x2 : Int32) (x3 : Int32) (x4 : Int32) (x5 : Int32) (h : Zh) : Option (Int32 × Zh) := zlet h fun g =>
  if zK g r0 = 10 then if ((zI h r0 1) + ((20 : Int32))) ≤ ((900 : Int32)) then (fX10_putBytes r0 x1 h).bind fun h2 => (fX10_putBytes r0 x2 h2).bind fun h3 => (fX10_putBytes r0 x3 h3).bind fun h4 => (fX10_putBytes r0 x4 h4).bind fun h5 => (fX10_putBytes r0 x5 h5).bind fun h6 => some (zI h6 r0 1, h6) else some ((-1 : Int32), h) else none
/-! FifthCard fault -/
def fX10_fault (r0 : Nat) (h : Zh) : Option (Int32 × Zh) := zlet h fun g =>
  if zK g r0 = 10 then some (zI h r0 9, h) else none
/-! FifthCard where -/
def fX10_where (r0 : Nat) (h : Zh) : Option (Int32 × Zh) := zlet h fun g =>
  if zK g r0 = 10 then if (zI h r0 8) = ((4 : Int32)) then some (zI h r0 10, h) else some ((-1 : Int32), h) else none
/-! FifthCard refuse -/
def fX10_refuse (r0 : Nat) (x1 : Int32) (h : Zh) : Option (Int32 × Zh) := zlet h fun g =>
  if zK g r0 = 10 then zlet (zsI h r0 8 x1) fun h2 => some ((-1 : Int32), h2) else none
/-! FifthCard answer -/
def fX10_answer (r0 : Nat) (x1 : Int32) (h : Zh) : Option (Int32 × Zh) := zlet h fun g =>
  if zK g r0 = 10 then zlet (zsI h r0 8 ((0 : Int32))) fun h2 => some (x1, h2) else none
/-! FifthCard hands -/
def fX10_hands (r0 : Nat) (h : Zh) : Option (Int32 × Zh) := zlet h fun g =>
  if zK g r0 = 10 then (zR h r0 3).bind fun r_2 => if zK g r_2 = 9 then if (zI h r_2 0) = 0 then zc2 (fX10_refuse r0 ((1 : Int32)) h) fun v11 h10 => some (v11, h10) else (zR h r0 3).bind fun r_4 => if zK g r_4 = 9 then (zR h r_4 1).bind fun r_6 => if zK g r_6 = 0 then zc2 (fX10_answer r0 (zI h r_6 9) h) fun v9 h8 => some (v9, h8) else none else none else none else none
/-! FifthCard rows -/
def fX10_rows (r0 : Nat) (h : Zh) : Option (Int32 × Zh) := zlet h fun g =>
  if zK g r0 = 10 then (zR h r0 3).bind fun r_2 => if zK g r_2 = 9 then if (zI h r_2 0) = 0 then zc2 (fX10_refuse r0 ((1 : Int32)) h) fun v11 h10 => some (v11, h10) else (zR h r0 3).bind fun r_4 => if zK g r_4 = 9 then (zR h r_4 1).bind fun r_6 => if zK g r_6 = 0 then zc2 (fX10_answer r0 (zI h r_6 10) h) fun v9 h8 => some (v9, h8) else none else none else none else none
/-! FifthCard noHand -/
def fX10_noHand (r0 : Nat) (x1 : Int32) (h : Zh) : Option (Int32 × Zh) := zlet h fun g =>
  if x1 < 0 then some ((1 : Int32), h) else if zK g r0 = 10 then (zR h r0 3).bind fun r_2 => if zK g r_2 = 9 then (zR h r_2 1).bind fun r_4 => if zK g r_4 = 0 then if x1 < (zI h r_4 9) then some ((0 : Int32), h) else some ((1 : Int32), h) else none else none else none
theorem dX7_step_0 : decode cX7_step 0 = .ok (.aload_n 0, 1) := by decide +kernel
theorem dX7_step_1 : decode cX7_step 1 = .ok (.aload_n 0, 1) := by decide +kernel
theorem dX7_step_2 : decode cX7_step 2 = .ok (.getfield 51, 3) := by decide +kernel
theorem dX7_step_5 : decode cX7_step 5 = .ok (.putfield 68, 3) := by decide +kernel
theorem dX7_step_8 : decode cX7_step 8 = .ok (.aload_n 0, 1) := by decide +kernel
theorem dX7_step_9 : decode cX7_step 9 = .ok (.getfield 68, 3) := by decide +kernel
theorem dX7_step_12 : decode cX7_step 12 = .ok (.aload_n 0, 1) := by decide +kernel
theorem dX7_step_13 : decode cX7_step 13 = .ok (.getfield 38, 3) := by decide +kernel
theorem dX7_step_16 : decode cX7_step 16 = .ok (.if_icmp .ge 30, 3) := by decide +kernel
theorem dX7_step_19 : decode cX7_step 19 = .ok (.aload_n 0, 1) := by decide +kernel
theorem dX7_step_20 : decode cX7_step 20 = .ok (.getfield 9, 3) := by decide +kernel
theorem dX7_step_23 : decode cX7_step 23 = .ok (.aload_n 0, 1) := by decide +kernel
theorem dX7_step_24 : decode cX7_step 24 = .ok (.getfield 68, 3) := by decide +kernel
theorem dX7_step_27 : decode cX7_step 27 = .ok (.baload, 1) := by decide +kernel
theorem dX7_step_28 : decode cX7_step 28 = .ok (.bipush 32, 2) := by decide +kernel
theorem dX7_step_30 : decode cX7_step 30 = .ok (.if_icmp .ne 16, 3) := by decide +kernel
theorem dX7_step_33 : decode cX7_step 33 = .ok (.aload_n 0, 1) := by decide +kernel
theorem dX7_step_34 : decode cX7_step 34 = .ok (.dup, 1) := by decide +kernel
theorem dX7_step_35 : decode cX7_step 35 = .ok (.getfield 68, 3) := by decide +kernel
theorem dX7_step_38 : decode cX7_step 38 = .ok (.iconst 1, 1) := by decide +kernel
theorem dX7_step_39 : decode cX7_step 39 = .ok (.iadd, 1) := by decide +kernel
theorem dX7_step_40 : decode cX7_step 40 = .ok (.putfield 68, 3) := by decide +kernel
theorem dX7_step_43 : decode cX7_step 43 = .ok (.goto (-35), 3) := by decide +kernel
theorem dX7_step_46 : decode cX7_step 46 = .ok (.aload_n 0, 1) := by decide +kernel
theorem dX7_step_47 : decode cX7_step 47 = .ok (.aload_n 0, 1) := by decide +kernel
theorem dX7_step_48 : decode cX7_step 48 = .ok (.getfield 68, 3) := by decide +kernel
theorem dX7_step_51 : decode cX7_step 51 = .ok (.putfield 51, 3) := by decide +kernel
theorem dX7_step_54 : decode cX7_step 54 = .ok (.aload_n 0, 1) := by decide +kernel
theorem dX7_step_55 : decode cX7_step 55 = .ok (.getfield 68, 3) := by decide +kernel
theorem dX7_step_58 : decode cX7_step 58 = .ok (.aload_n 0, 1) := by decide +kernel
theorem dX7_step_59 : decode cX7_step 59 = .ok (.getfield 38, 3) := by decide +kernel
theorem dX7_step_62 : decode cX7_step 62 = .ok (.if_icmp .lt 9, 3) := by decide +kernel
theorem dX7_step_65 : decode cX7_step 65 = .ok (.aload_n 0, 1) := by decide +kernel
theorem dX7_step_66 : decode cX7_step 66 = .ok (.iconst 0, 1) := by decide +kernel
theorem dX7_step_67 : decode cX7_step 67 = .ok (.putfield 61, 3) := by decide +kernel
theorem dX7_step_70 : decode cX7_step 70 = .ok (.return_, 1) := by decide +kernel
theorem dX7_step_71 : decode cX7_step 71 = .ok (.aload_n 0, 1) := by decide +kernel
theorem dX7_step_72 : decode cX7_step 72 = .ok (.getfield 9, 3) := by decide +kernel
theorem dX7_step_75 : decode cX7_step 75 = .ok (.aload_n 0, 1) := by decide +kernel
theorem dX7_step_76 : decode cX7_step 76 = .ok (.getfield 68, 3) := by decide +kernel
theorem dX7_step_79 : decode cX7_step 79 = .ok (.baload, 1) := by decide +kernel
theorem dX7_step_80 : decode cX7_step 80 = .ok (.istore_n 1, 1) := by decide +kernel
theorem dX7_step_81 : decode cX7_step 81 = .ok (.iload_n 1, 1) := by decide +kernel
theorem dX7_step_82 : decode cX7_step 82 = .ok (.bipush 97, 2) := by decide +kernel
theorem dX7_step_84 : decode cX7_step 84 = .ok (.if_icmp .lt 34, 3) := by decide +kernel
theorem dX7_step_87 : decode cX7_step 87 = .ok (.iload_n 1, 1) := by decide +kernel
theorem dX7_step_88 : decode cX7_step 88 = .ok (.bipush 122, 2) := by decide +kernel
theorem dX7_step_90 : decode cX7_step 90 = .ok (.if_icmp .gt 28, 3) := by decide +kernel
theorem dX7_step_93 : decode cX7_step 93 = .ok (.aload_n 0, 1) := by decide +kernel
theorem dX7_step_94 : decode cX7_step 94 = .ok (.aload_n 0, 1) := by decide +kernel
theorem dX7_step_95 : decode cX7_step 95 = .ok (.bipush 97, 2) := by decide +kernel
theorem dX7_step_97 : decode cX7_step 97 = .ok (.bipush 122, 2) := by decide +kernel
theorem dX7_step_99 : decode cX7_step 99 = .ok (.invokevirtual 71, 3) := by decide +kernel
theorem dX7_step_102 : decode cX7_step 102 = .ok (.bipush 8, 2) := by decide +kernel
theorem dX7_step_104 : decode cX7_step 104 = .ok (.if_icmp .gt 7, 3) := by decide +kernel
theorem dX7_step_107 : decode cX7_step 107 = .ok (.iconst 1, 1) := by decide +kernel
theorem dX7_step_108 : decode cX7_step 108 = .ok (.goto 4, 3) := by decide +kernel
theorem dX7_step_111 : decode cX7_step 111 = .ok (.iconst 5, 1) := by decide +kernel
theorem dX7_step_112 : decode cX7_step 112 = .ok (.putfield 61, 3) := by decide +kernel
theorem dX7_step_115 : decode cX7_step 115 = .ok (.goto 74, 3) := by decide +kernel
theorem dX7_step_118 : decode cX7_step 118 = .ok (.iload_n 1, 1) := by decide +kernel
theorem dX7_step_119 : decode cX7_step 119 = .ok (.bipush 48, 2) := by decide +kernel
theorem dX7_step_121 : decode cX7_step 121 = .ok (.if_icmp .lt 33, 3) := by decide +kernel
theorem dX7_step_124 : decode cX7_step 124 = .ok (.iload_n 1, 1) := by decide +kernel
theorem dX7_step_125 : decode cX7_step 125 = .ok (.bipush 57, 2) := by decide +kernel
theorem dX7_step_127 : decode cX7_step 127 = .ok (.if_icmp .gt 27, 3) := by decide +kernel
theorem dX7_step_130 : decode cX7_step 130 = .ok (.aload_n 0, 1) := by decide +kernel
theorem dX7_step_131 : decode cX7_step 131 = .ok (.aload_n 0, 1) := by decide +kernel
theorem dX7_step_132 : decode cX7_step 132 = .ok (.bipush 48, 2) := by decide +kernel
theorem dX7_step_134 : decode cX7_step 134 = .ok (.bipush 57, 2) := by decide +kernel
theorem dX7_step_136 : decode cX7_step 136 = .ok (.invokevirtual 71, 3) := by decide +kernel
theorem dX7_step_139 : decode cX7_step 139 = .ok (.iconst 3, 1) := by decide +kernel
theorem dX7_step_140 : decode cX7_step 140 = .ok (.if_icmp .gt 7, 3) := by decide +kernel
theorem dX7_step_143 : decode cX7_step 143 = .ok (.iconst 2, 1) := by decide +kernel
theorem dX7_step_144 : decode cX7_step 144 = .ok (.goto 4, 3) := by decide +kernel
theorem dX7_step_147 : decode cX7_step 147 = .ok (.iconst 5, 1) := by decide +kernel
theorem dX7_step_148 : decode cX7_step 148 = .ok (.putfield 61, 3) := by decide +kernel
theorem dX7_step_151 : decode cX7_step 151 = .ok (.goto 38, 3) := by decide +kernel
theorem dX7_step_154 : decode cX7_step 154 = .ok (.aload_n 0, 1) := by decide +kernel
theorem dX7_step_155 : decode cX7_step 155 = .ok (.iload_n 1, 1) := by decide +kernel
theorem dX7_step_156 : decode cX7_step 156 = .ok (.bipush 59, 2) := by decide +kernel
theorem dX7_step_158 : decode cX7_step 158 = .ok (.if_icmp .ne 7, 3) := by decide +kernel
theorem dX7_step_161 : decode cX7_step 161 = .ok (.iconst 3, 1) := by decide +kernel
theorem dX7_step_162 : decode cX7_step 162 = .ok (.goto 14, 3) := by decide +kernel
theorem dX7_step_165 : decode cX7_step 165 = .ok (.iload_n 1, 1) := by decide +kernel
theorem dX7_step_166 : decode cX7_step 166 = .ok (.bipush 44, 2) := by decide +kernel
theorem dX7_step_168 : decode cX7_step 168 = .ok (.if_icmp .ne 7, 3) := by decide +kernel
theorem dX7_step_171 : decode cX7_step 171 = .ok (.iconst 4, 1) := by decide +kernel
theorem dX7_step_172 : decode cX7_step 172 = .ok (.goto 4, 3) := by decide +kernel
theorem dX7_step_175 : decode cX7_step 175 = .ok (.iconst 5, 1) := by decide +kernel
theorem dX7_step_176 : decode cX7_step 176 = .ok (.putfield 61, 3) := by decide +kernel
theorem dX7_step_179 : decode cX7_step 179 = .ok (.aload_n 0, 1) := by decide +kernel
theorem dX7_step_180 : decode cX7_step 180 = .ok (.dup, 1) := by decide +kernel
theorem dX7_step_181 : decode cX7_step 181 = .ok (.getfield 51, 3) := by decide +kernel
theorem dX7_step_184 : decode cX7_step 184 = .ok (.iconst 1, 1) := by decide +kernel
theorem dX7_step_185 : decode cX7_step 185 = .ok (.iadd, 1) := by decide +kernel
theorem dX7_step_186 : decode cX7_step 186 = .ok (.putfield 51, 3) := by decide +kernel
theorem dX7_step_189 : decode cX7_step 189 = .ok (.return_, 1) := by decide +kernel
theorem dX7_isWhole_0 : decode cX7_isWhole 0 = .ok (.aload_n 0, 1) := by decide +kernel
theorem dX7_isWhole_1 : decode cX7_isWhole 1 = .ok (.getfield 61, 3) := by decide +kernel
theorem dX7_isWhole_4 : decode cX7_isWhole 4 = .ok (.iconst 2, 1) := by decide +kernel
theorem dX7_isWhole_5 : decode cX7_isWhole 5 = .ok (.if_icmp .eq 9, 3) := by decide +kernel
theorem dX7_isWhole_8 : decode cX7_isWhole 8 = .ok (.aload_n 0, 1) := by decide +kernel
theorem dX7_isWhole_9 : decode cX7_isWhole 9 = .ok (.iconst 1, 1) := by decide +kernel
theorem dX7_isWhole_10 : decode cX7_isWhole 10 = .ok (.invokevirtual 64, 3) := by decide +kernel
theorem dX7_isWhole_13 : decode cX7_isWhole 13 = .ok (.ireturn, 1) := by decide +kernel
theorem dX7_isWhole_14 : decode cX7_isWhole 14 = .ok (.aload_n 0, 1) := by decide +kernel
theorem dX7_isWhole_15 : decode cX7_isWhole 15 = .ok (.getfield 74, 3) := by decide +kernel
theorem dX7_isWhole_18 : decode cX7_isWhole 18 = .ok (.iload_n 1, 1) := by decide +kernel
theorem dX7_isWhole_19 : decode cX7_isWhole 19 = .ok (.if_icmp .lt 11, 3) := by decide +kernel
theorem dX7_isWhole_22 : decode cX7_isWhole 22 = .ok (.aload_n 0, 1) := by decide +kernel
theorem dX7_isWhole_23 : decode cX7_isWhole 23 = .ok (.getfield 74, 3) := by decide +kernel
theorem dX7_isWhole_26 : decode cX7_isWhole 26 = .ok (.iload_n 2, 1) := by decide +kernel
theorem dX7_isWhole_27 : decode cX7_isWhole 27 = .ok (.if_icmp .le 11, 3) := by decide +kernel
theorem dX7_isWhole_30 : decode cX7_isWhole 30 = .ok (.aload_n 0, 1) := by decide +kernel
theorem dX7_isWhole_31 : decode cX7_isWhole 31 = .ok (.iconst 4, 1) := by decide +kernel
theorem dX7_isWhole_32 : decode cX7_isWhole 32 = .ok (.invokevirtual 64, 3) := by decide +kernel
theorem dX7_isWhole_35 : decode cX7_isWhole 35 = .ok (.ifCond .eq 7, 3) := by decide +kernel
theorem dX7_isWhole_38 : decode cX7_isWhole 38 = .ok (.iconst 1, 1) := by decide +kernel
theorem dX7_isWhole_39 : decode cX7_isWhole 39 = .ok (.goto 4, 3) := by decide +kernel
theorem dX7_isWhole_42 : decode cX7_isWhole 42 = .ok (.iconst 0, 1) := by decide +kernel
theorem dX7_isWhole_43 : decode cX7_isWhole 43 = .ok (.ireturn, 1) := by decide +kernel
theorem dX7_isNameOf_0 : decode cX7_isNameOf 0 = .ok (.aload_n 0, 1) := by decide +kernel
theorem dX7_isNameOf_1 : decode cX7_isNameOf 1 = .ok (.getfield 51, 3) := by decide +kernel
theorem dX7_isNameOf_4 : decode cX7_isNameOf 4 = .ok (.aload_n 0, 1) := by decide +kernel
theorem dX7_isNameOf_5 : decode cX7_isNameOf 5 = .ok (.getfield 68, 3) := by decide +kernel
theorem dX7_isNameOf_8 : decode cX7_isNameOf 8 = .ok (.isub, 1) := by decide +kernel
theorem dX7_isNameOf_9 : decode cX7_isNameOf 9 = .ok (.aload_n 0, 1) := by decide +kernel
theorem dX7_isNameOf_10 : decode cX7_isNameOf 10 = .ok (.getfield 26, 3) := by decide +kernel
theorem dX7_isNameOf_13 : decode cX7_isNameOf 13 = .ok (.iload_n 1, 1) := by decide +kernel
theorem dX7_isNameOf_14 : decode cX7_isNameOf 14 = .ok (.iaload, 1) := by decide +kernel
theorem dX7_isNameOf_15 : decode cX7_isNameOf 15 = .ok (.if_icmp .eq 5, 3) := by decide +kernel
theorem dX7_isNameOf_18 : decode cX7_isNameOf 18 = .ok (.iconst 0, 1) := by decide +kernel
theorem dX7_isNameOf_19 : decode cX7_isNameOf 19 = .ok (.ireturn, 1) := by decide +kernel
theorem dX7_isNameOf_20 : decode cX7_isNameOf 20 = .ok (.iconst 0, 1) := by decide +kernel
theorem dX7_isNameOf_21 : decode cX7_isNameOf 21 = .ok (.istore_n 2, 1) := by decide +kernel
theorem dX7_isNameOf_22 : decode cX7_isNameOf 22 = .ok (.iload_n 2, 1) := by decide +kernel
theorem dX7_isNameOf_23 : decode cX7_isNameOf 23 = .ok (.aload_n 0, 1) := by decide +kernel
theorem dX7_isNameOf_24 : decode cX7_isNameOf 24 = .ok (.getfield 26, 3) := by decide +kernel
theorem dX7_isNameOf_27 : decode cX7_isNameOf 27 = .ok (.iload_n 1, 1) := by decide +kernel
theorem dX7_isNameOf_28 : decode cX7_isNameOf 28 = .ok (.iaload, 1) := by decide +kernel
theorem dX7_isNameOf_29 : decode cX7_isNameOf 29 = .ok (.if_icmp .ge 38, 3) := by decide +kernel
theorem dX7_isNameOf_32 : decode cX7_isNameOf 32 = .ok (.aload_n 0, 1) := by decide +kernel
theorem dX7_isNameOf_33 : decode cX7_isNameOf 33 = .ok (.getfield 9, 3) := by decide +kernel
theorem dX7_isNameOf_36 : decode cX7_isNameOf 36 = .ok (.aload_n 0, 1) := by decide +kernel
theorem dX7_isNameOf_37 : decode cX7_isNameOf 37 = .ok (.getfield 68, 3) := by decide +kernel
theorem dX7_isNameOf_40 : decode cX7_isNameOf 40 = .ok (.iload_n 2, 1) := by decide +kernel
theorem dX7_isNameOf_41 : decode cX7_isNameOf 41 = .ok (.iadd, 1) := by decide +kernel
theorem dX7_isNameOf_42 : decode cX7_isNameOf 42 = .ok (.baload, 1) := by decide +kernel
theorem dX7_isNameOf_43 : decode cX7_isNameOf 43 = .ok (.aload_n 0, 1) := by decide +kernel
theorem dX7_isNameOf_44 : decode cX7_isNameOf 44 = .ok (.getfield 9, 3) := by decide +kernel
theorem dX7_isNameOf_47 : decode cX7_isNameOf 47 = .ok (.aload_n 0, 1) := by decide +kernel
theorem dX7_isNameOf_48 : decode cX7_isNameOf 48 = .ok (.getfield 22, 3) := by decide +kernel
theorem dX7_isNameOf_51 : decode cX7_isNameOf 51 = .ok (.iload_n 1, 1) := by decide +kernel
theorem dX7_isNameOf_52 : decode cX7_isNameOf 52 = .ok (.iaload, 1) := by decide +kernel
theorem dX7_isNameOf_53 : decode cX7_isNameOf 53 = .ok (.iload_n 2, 1) := by decide +kernel
theorem dX7_isNameOf_54 : decode cX7_isNameOf 54 = .ok (.iadd, 1) := by decide +kernel
theorem dX7_isNameOf_55 : decode cX7_isNameOf 55 = .ok (.baload, 1) := by decide +kernel
theorem dX7_isNameOf_56 : decode cX7_isNameOf 56 = .ok (.if_icmp .eq 5, 3) := by decide +kernel
theorem dX7_isNameOf_59 : decode cX7_isNameOf 59 = .ok (.iconst 0, 1) := by decide +kernel
theorem dX7_isNameOf_60 : decode cX7_isNameOf 60 = .ok (.ireturn, 1) := by decide +kernel
theorem dX7_isNameOf_61 : decode cX7_isNameOf 61 = .ok (.iinc 2 1, 3) := by decide +kernel
theorem dX7_isNameOf_64 : decode cX7_isNameOf 64 = .ok (.goto (-42), 3) := by decide +kernel
theorem dX7_isNameOf_67 : decode cX7_isNameOf 67 = .ok (.iconst 1, 1) := by decide +kernel
theorem dX7_isNameOf_68 : decode cX7_isNameOf 68 = .ok (.ireturn, 1) := by decide +kernel
theorem dX7_isUntold_0 : decode cX7_isUntold 0 = .ok (.aload_n 0, 1) := by decide +kernel
theorem dX7_isUntold_1 : decode cX7_isUntold 1 = .ok (.iconst 0, 1) := by decide +kernel
theorem dX7_isUntold_2 : decode cX7_isUntold 2 = .ok (.iload_n 1, 1) := by decide +kernel
theorem dX7_isUntold_3 : decode cX7_isUntold 3 = .ok (.iconst 1, 1) := by decide +kernel
theorem dX7_isUntold_4 : decode cX7_isUntold 4 = .ok (.isub, 1) := by decide +kernel
theorem dX7_isUntold_5 : decode cX7_isUntold 5 = .ok (.invokevirtual 91, 3) := by decide +kernel
theorem dX7_isUntold_8 : decode cX7_isUntold 8 = .ok (.ifCond .ne 5, 3) := by decide +kernel
theorem dX7_isUntold_11 : decode cX7_isUntold 11 = .ok (.iconst 0, 1) := by decide +kernel
theorem dX7_isUntold_12 : decode cX7_isUntold 12 = .ok (.ireturn, 1) := by decide +kernel
theorem dX7_isUntold_13 : decode cX7_isUntold 13 = .ok (.iload_n 2, 1) := by decide +kernel
theorem dX7_isUntold_14 : decode cX7_isUntold 14 = .ok (.aload_n 0, 1) := by decide +kernel
theorem dX7_isUntold_15 : decode cX7_isUntold 15 = .ok (.getfield 74, 3) := by decide +kernel
theorem dX7_isUntold_18 : decode cX7_isUntold 18 = .ok (.ishr, 1) := by decide +kernel
theorem dX7_isUntold_19 : decode cX7_isUntold 19 = .ok (.iconst 1, 1) := by decide +kernel
theorem dX7_isUntold_20 : decode cX7_isUntold 20 = .ok (.iand, 1) := by decide +kernel
theorem dX7_isUntold_21 : decode cX7_isUntold 21 = .ok (.ifCond .eq 11, 3) := by decide +kernel
theorem dX7_isUntold_24 : decode cX7_isUntold 24 = .ok (.aload_n 0, 1) := by decide +kernel
theorem dX7_isUntold_25 : decode cX7_isUntold 25 = .ok (.iconst 3, 1) := by decide +kernel
theorem dX7_isUntold_26 : decode cX7_isUntold 26 = .ok (.invokevirtual 64, 3) := by decide +kernel
theorem dX7_isUntold_29 : decode cX7_isUntold 29 = .ok (.ifCond .eq 7, 3) := by decide +kernel
theorem dX7_isUntold_32 : decode cX7_isUntold 32 = .ok (.iconst 1, 1) := by decide +kernel
theorem dX7_isUntold_33 : decode cX7_isUntold 33 = .ok (.goto 4, 3) := by decide +kernel
theorem dX7_isUntold_36 : decode cX7_isUntold 36 = .ok (.iconst 0, 1) := by decide +kernel
theorem dX7_isUntold_37 : decode cX7_isUntold 37 = .ok (.ireturn, 1) := by decide +kernel
theorem dX7_readCards_0 : decode cX7_readCards 0 = .ok (.iconst 0, 1) := by decide +kernel
theorem dX7_readCards_1 : decode cX7_readCards 1 = .ok (.istore_n 2, 1) := by decide +kernel
theorem dX7_readCards_2 : decode cX7_readCards 2 = .ok (.iconst 0, 1) := by decide +kernel
theorem dX7_readCards_3 : decode cX7_readCards 3 = .ok (.istore_n 3, 1) := by decide +kernel
theorem dX7_readCards_4 : decode cX7_readCards 4 = .ok (.iload_n 3, 1) := by decide +kernel
theorem dX7_readCards_5 : decode cX7_readCards 5 = .ok (.iload_n 1, 1) := by decide +kernel
theorem dX7_readCards_6 : decode cX7_readCards 6 = .ok (.if_icmp .ge 74, 3) := by decide +kernel
theorem dX7_readCards_9 : decode cX7_readCards 9 = .ok (.iload_n 3, 1) := by decide +kernel
theorem dX7_readCards_10 : decode cX7_readCards 10 = .ok (.ifCond .le 21, 3) := by decide +kernel
theorem dX7_readCards_13 : decode cX7_readCards 13 = .ok (.aload_n 0, 1) := by decide +kernel
theorem dX7_readCards_14 : decode cX7_readCards 14 = .ok (.getfield 61, 3) := by decide +kernel
theorem dX7_readCards_17 : decode cX7_readCards 17 = .ok (.iconst 4, 1) := by decide +kernel
theorem dX7_readCards_18 : decode cX7_readCards 18 = .ok (.if_icmp .eq 9, 3) := by decide +kernel
theorem dX7_readCards_21 : decode cX7_readCards 21 = .ok (.aload_n 0, 1) := by decide +kernel
theorem dX7_readCards_22 : decode cX7_readCards 22 = .ok (.iconst 1, 1) := by decide +kernel
theorem dX7_readCards_23 : decode cX7_readCards 23 = .ok (.invokevirtual 64, 3) := by decide +kernel
theorem dX7_readCards_26 : decode cX7_readCards 26 = .ok (.ireturn, 1) := by decide +kernel
theorem dX7_readCards_27 : decode cX7_readCards 27 = .ok (.aload_n 0, 1) := by decide +kernel
theorem dX7_readCards_28 : decode cX7_readCards 28 = .ok (.invokevirtual 54, 3) := by decide +kernel
theorem dX7_readCards_31 : decode cX7_readCards 31 = .ok (.aload_n 0, 1) := by decide +kernel
theorem dX7_readCards_32 : decode cX7_readCards 32 = .ok (.aload_n 0, 1) := by decide +kernel
theorem dX7_readCards_33 : decode cX7_readCards 33 = .ok (.getfield 18, 3) := by decide +kernel
theorem dX7_readCards_36 : decode cX7_readCards 36 = .ok (.getfield 114, 3) := by decide +kernel
theorem dX7_readCards_39 : decode cX7_readCards 39 = .ok (.getfield 124, 3) := by decide +kernel
theorem dX7_readCards_42 : decode cX7_readCards 42 = .ok (.iload_n 2, 1) := by decide +kernel
theorem dX7_readCards_43 : decode cX7_readCards 43 = .ok (.invokevirtual 257, 3) := by decide +kernel
theorem dX7_readCards_46 : decode cX7_readCards 46 = .ok (.ifCond .ne 5, 3) := by decide +kernel
theorem dX7_readCards_49 : decode cX7_readCards 49 = .ok (.iconst 0, 1) := by decide +kernel
theorem dX7_readCards_50 : decode cX7_readCards 50 = .ok (.ireturn, 1) := by decide +kernel
theorem dX7_readCards_51 : decode cX7_readCards 51 = .ok (.aload_n 0, 1) := by decide +kernel
theorem dX7_readCards_52 : decode cX7_readCards 52 = .ok (.getfield 29, 3) := by decide +kernel
theorem dX7_readCards_55 : decode cX7_readCards 55 = .ok (.iload_n 3, 1) := by decide +kernel
theorem dX7_readCards_56 : decode cX7_readCards 56 = .ok (.aload_n 0, 1) := by decide +kernel
theorem dX7_readCards_57 : decode cX7_readCards 57 = .ok (.getfield 74, 3) := by decide +kernel
theorem dX7_readCards_60 : decode cX7_readCards 60 = .ok (.iastore, 1) := by decide +kernel
theorem dX7_readCards_61 : decode cX7_readCards 61 = .ok (.iload_n 2, 1) := by decide +kernel
theorem dX7_readCards_62 : decode cX7_readCards 62 = .ok (.iconst 1, 1) := by decide +kernel
theorem dX7_readCards_63 : decode cX7_readCards 63 = .ok (.aload_n 0, 1) := by decide +kernel
theorem dX7_readCards_64 : decode cX7_readCards 64 = .ok (.getfield 74, 3) := by decide +kernel
theorem dX7_readCards_67 : decode cX7_readCards 67 = .ok (.ishl, 1) := by decide +kernel
theorem dX7_readCards_68 : decode cX7_readCards 68 = .ok (.ior, 1) := by decide +kernel
theorem dX7_readCards_69 : decode cX7_readCards 69 = .ok (.istore_n 2, 1) := by decide +kernel
theorem dX7_readCards_70 : decode cX7_readCards 70 = .ok (.aload_n 0, 1) := by decide +kernel
theorem dX7_readCards_71 : decode cX7_readCards 71 = .ok (.invokevirtual 54, 3) := by decide +kernel
theorem dX7_readCards_74 : decode cX7_readCards 74 = .ok (.iinc 3 1, 3) := by decide +kernel
theorem dX7_readCards_77 : decode cX7_readCards 77 = .ok (.goto (-73), 3) := by decide +kernel
theorem dX7_readCards_80 : decode cX7_readCards 80 = .ok (.iconst 1, 1) := by decide +kernel
theorem dX7_readCards_81 : decode cX7_readCards 81 = .ok (.ireturn, 1) := by decide +kernel
theorem dX7_readTilts_0 : decode cX7_readTilts 0 = .ok (.iconst 0, 1) := by decide +kernel
theorem dX7_readTilts_1 : decode cX7_readTilts 1 = .ok (.istore_n 2, 1) := by decide +kernel
theorem dX7_readTilts_2 : decode cX7_readTilts 2 = .ok (.iconst 0, 1) := by decide +kernel
theorem dX7_readTilts_3 : decode cX7_readTilts 3 = .ok (.istore_n 3, 1) := by decide +kernel
theorem dX7_readTilts_4 : decode cX7_readTilts 4 = .ok (.iload_n 3, 1) := by decide +kernel
theorem dX7_readTilts_5 : decode cX7_readTilts 5 = .ok (.aload_n 0, 1) := by decide +kernel
theorem dX7_readTilts_6 : decode cX7_readTilts 6 = .ok (.getfield 38, 3) := by decide +kernel
theorem dX7_readTilts_9 : decode cX7_readTilts 9 = .ok (.if_icmp .gt 47, 3) := by decide +kernel
theorem dX7_readTilts_12 : decode cX7_readTilts 12 = .ok (.aload_n 0, 1) := by decide +kernel
theorem dX7_readTilts_13 : decode cX7_readTilts 13 = .ok (.iload_n 1, 1) := by decide +kernel
theorem dX7_readTilts_14 : decode cX7_readTilts 14 = .ok (.iload_n 2, 1) := by decide +kernel
theorem dX7_readTilts_15 : decode cX7_readTilts 15 = .ok (.invokevirtual 257, 3) := by decide +kernel
theorem dX7_readTilts_18 : decode cX7_readTilts 18 = .ok (.ifCond .ne 5, 3) := by decide +kernel
theorem dX7_readTilts_21 : decode cX7_readTilts 21 = .ok (.iconst (-1), 1) := by decide +kernel
theorem dX7_readTilts_22 : decode cX7_readTilts 22 = .ok (.ireturn, 1) := by decide +kernel
theorem dX7_readTilts_23 : decode cX7_readTilts 23 = .ok (.iload_n 2, 1) := by decide +kernel
theorem dX7_readTilts_24 : decode cX7_readTilts 24 = .ok (.iconst 1, 1) := by decide +kernel
theorem dX7_readTilts_25 : decode cX7_readTilts 25 = .ok (.aload_n 0, 1) := by decide +kernel
theorem dX7_readTilts_26 : decode cX7_readTilts 26 = .ok (.getfield 74, 3) := by decide +kernel
theorem dX7_readTilts_29 : decode cX7_readTilts 29 = .ok (.ishl, 1) := by decide +kernel
theorem dX7_readTilts_30 : decode cX7_readTilts 30 = .ok (.ior, 1) := by decide +kernel
theorem dX7_readTilts_31 : decode cX7_readTilts 31 = .ok (.istore_n 2, 1) := by decide +kernel
theorem dX7_readTilts_32 : decode cX7_readTilts 32 = .ok (.aload_n 0, 1) := by decide +kernel
theorem dX7_readTilts_33 : decode cX7_readTilts 33 = .ok (.invokevirtual 54, 3) := by decide +kernel
theorem dX7_readTilts_36 : decode cX7_readTilts 36 = .ok (.aload_n 0, 1) := by decide +kernel
theorem dX7_readTilts_37 : decode cX7_readTilts 37 = .ok (.getfield 61, 3) := by decide +kernel
theorem dX7_readTilts_40 : decode cX7_readTilts 40 = .ok (.iconst 4, 1) := by decide +kernel
theorem dX7_readTilts_41 : decode cX7_readTilts 41 = .ok (.if_icmp .eq 5, 3) := by decide +kernel
theorem dX7_readTilts_44 : decode cX7_readTilts 44 = .ok (.iload_n 2, 1) := by decide +kernel
theorem dX7_readTilts_45 : decode cX7_readTilts 45 = .ok (.ireturn, 1) := by decide +kernel
theorem dX7_readTilts_46 : decode cX7_readTilts 46 = .ok (.aload_n 0, 1) := by decide +kernel
theorem dX7_readTilts_47 : decode cX7_readTilts 47 = .ok (.invokevirtual 54, 3) := by decide +kernel
theorem dX7_readTilts_50 : decode cX7_readTilts 50 = .ok (.iinc 3 1, 3) := by decide +kernel
theorem dX7_readTilts_53 : decode cX7_readTilts 53 = .ok (.goto (-49), 3) := by decide +kernel
theorem dX7_readTilts_56 : decode cX7_readTilts 56 = .ok (.iconst (-1), 1) := by decide +kernel
theorem dX7_readTilts_57 : decode cX7_readTilts 57 = .ok (.ireturn, 1) := by decide +kernel
theorem dX9_clear_0 : decode cX9_clear 0 = .ok (.aload_n 0, 1) := by decide +kernel
theorem dX9_clear_1 : decode cX9_clear 1 = .ok (.iconst 0, 1) := by decide +kernel
theorem dX9_clear_2 : decode cX9_clear 2 = .ok (.putfield 29, 3) := by decide +kernel
theorem dX9_clear_5 : decode cX9_clear 5 = .ok (.aload_n 0, 1) := by decide +kernel
theorem dX9_clear_6 : decode cX9_clear 6 = .ok (.getfield 12, 3) := by decide +kernel
theorem dX9_clear_9 : decode cX9_clear 9 = .ok (.invokevirtual 33, 3) := by decide +kernel
theorem dX9_clear_12 : decode cX9_clear 12 = .ok (.aload_n 0, 1) := by decide +kernel
theorem dX9_clear_13 : decode cX9_clear 13 = .ok (.iconst 0, 1) := by decide +kernel
theorem dX9_clear_14 : decode cX9_clear 14 = .ok (.putfield 36, 3) := by decide +kernel
theorem dX9_clear_17 : decode cX9_clear 17 = .ok (.aload_n 0, 1) := by decide +kernel
theorem dX9_clear_18 : decode cX9_clear 18 = .ok (.getfield 25, 3) := by decide +kernel
theorem dX9_clear_21 : decode cX9_clear 21 = .ok (.invokevirtual 40, 3) := by decide +kernel
theorem dX9_clear_24 : decode cX9_clear 24 = .ok (.return_, 1) := by decide +kernel
theorem dX10_putBytes_0 : decode cX10_putBytes 0 = .ok (.bipush 24, 2) := by decide +kernel
theorem dX10_putBytes_2 : decode cX10_putBytes 2 = .ok (.istore_n 2, 1) := by decide +kernel
theorem dX10_putBytes_3 : decode cX10_putBytes 3 = .ok (.iload_n 2, 1) := by decide +kernel
theorem dX10_putBytes_4 : decode cX10_putBytes 4 = .ok (.ifCond .lt 32, 3) := by decide +kernel
theorem dX10_putBytes_7 : decode cX10_putBytes 7 = .ok (.aload_n 0, 1) := by decide +kernel
theorem dX10_putBytes_8 : decode cX10_putBytes 8 = .ok (.getfield 9, 3) := by decide +kernel
theorem dX10_putBytes_11 : decode cX10_putBytes 11 = .ok (.aload_n 0, 1) := by decide +kernel
theorem dX10_putBytes_12 : decode cX10_putBytes 12 = .ok (.getfield 48, 3) := by decide +kernel
theorem dX10_putBytes_15 : decode cX10_putBytes 15 = .ok (.iload_n 1, 1) := by decide +kernel
theorem dX10_putBytes_16 : decode cX10_putBytes 16 = .ok (.iload_n 2, 1) := by decide +kernel
theorem dX10_putBytes_17 : decode cX10_putBytes 17 = .ok (.ishr, 1) := by decide +kernel
theorem dX10_putBytes_18 : decode cX10_putBytes 18 = .ok (.i2b, 1) := by decide +kernel
theorem dX10_putBytes_19 : decode cX10_putBytes 19 = .ok (.bastore, 1) := by decide +kernel
theorem dX10_putBytes_20 : decode cX10_putBytes 20 = .ok (.aload_n 0, 1) := by decide +kernel
theorem dX10_putBytes_21 : decode cX10_putBytes 21 = .ok (.dup, 1) := by decide +kernel
theorem dX10_putBytes_22 : decode cX10_putBytes 22 = .ok (.getfield 48, 3) := by decide +kernel
theorem dX10_putBytes_25 : decode cX10_putBytes 25 = .ok (.iconst 1, 1) := by decide +kernel
theorem dX10_putBytes_26 : decode cX10_putBytes 26 = .ok (.iadd, 1) := by decide +kernel
theorem dX10_putBytes_27 : decode cX10_putBytes 27 = .ok (.putfield 48, 3) := by decide +kernel
theorem dX10_putBytes_30 : decode cX10_putBytes 30 = .ok (.iinc 2 (-8), 3) := by decide +kernel
theorem dX10_putBytes_33 : decode cX10_putBytes 33 = .ok (.goto (-30), 3) := by decide +kernel
theorem dX10_putBytes_36 : decode cX10_putBytes 36 = .ok (.return_, 1) := by decide +kernel
theorem dX10_feed_0 : decode cX10_feed 0 = .ok (.aload_n 0, 1) := by decide +kernel
theorem dX10_feed_1 : decode cX10_feed 1 = .ok (.getfield 48, 3) := by decide +kernel
theorem dX10_feed_4 : decode cX10_feed 4 = .ok (.bipush 20, 2) := by decide +kernel
theorem dX10_feed_6 : decode cX10_feed 6 = .ok (.iadd, 1) := by decide +kernel
theorem dX10_feed_7 : decode cX10_feed 7 = .ok (.sipush 900, 3) := by decide +kernel
theorem dX10_feed_10 : decode cX10_feed 10 = .ok (.if_icmp .le 5, 3) := by decide +kernel
theorem dX10_feed_13 : decode cX10_feed 13 = .ok (.iconst (-1), 1) := by decide +kernel
theorem dX10_feed_14 : decode cX10_feed 14 = .ok (.ireturn, 1) := by decide +kernel
theorem dX10_feed_15 : decode cX10_feed 15 = .ok (.aload_n 0, 1) := by decide +kernel
theorem dX10_feed_16 : decode cX10_feed 16 = .ok (.iload_n 1, 1) := by decide +kernel
theorem dX10_feed_17 : decode cX10_feed 17 = .ok (.invokevirtual 52, 3) := by decide +kernel
theorem dX10_feed_20 : decode cX10_feed 20 = .ok (.aload_n 0, 1) := by decide +kernel
theorem dX10_feed_21 : decode cX10_feed 21 = .ok (.iload_n 2, 1) := by decide +kernel
theorem dX10_feed_22 : decode cX10_feed 22 = .ok (.invokevirtual 52, 3) := by decide +kernel
theorem dX10_feed_25 : decode cX10_feed 25 = .ok (.aload_n 0, 1) := by decide +kernel
theorem dX10_feed_26 : decode cX10_feed 26 = .ok (.iload_n 3, 1) := by decide +kernel
theorem dX10_feed_27 : decode cX10_feed 27 = .ok (.invokevirtual 52, 3) := by decide +kernel
theorem dX10_feed_30 : decode cX10_feed 30 = .ok (.aload_n 0, 1) := by decide +kernel
theorem dX10_feed_31 : decode cX10_feed 31 = .ok (.iload 4, 2) := by decide +kernel
theorem dX10_feed_33 : decode cX10_feed 33 = .ok (.invokevirtual 52, 3) := by decide +kernel
theorem dX10_feed_36 : decode cX10_feed 36 = .ok (.aload_n 0, 1) := by decide +kernel
theorem dX10_feed_37 : decode cX10_feed 37 = .ok (.iload 5, 2) := by decide +kernel
theorem dX10_feed_39 : decode cX10_feed 39 = .ok (.invokevirtual 52, 3) := by decide +kernel
theorem dX10_feed_42 : decode cX10_feed 42 = .ok (.aload_n 0, 1) := by decide +kernel
theorem dX10_feed_43 : decode cX10_feed 43 = .ok (.getfield 48, 3) := by decide +kernel
theorem dX10_feed_46 : decode cX10_feed 46 = .ok (.ireturn, 1) := by decide +kernel
theorem dX10_fault_0 : decode cX10_fault 0 = .ok (.aload_n 0, 1) := by decide +kernel
theorem dX10_fault_1 : decode cX10_fault 1 = .ok (.getfield 67, 3) := by decide +kernel
theorem dX10_fault_4 : decode cX10_fault 4 = .ok (.ireturn, 1) := by decide +kernel
theorem dX10_where_0 : decode cX10_where 0 = .ok (.aload_n 0, 1) := by decide +kernel
theorem dX10_where_1 : decode cX10_where 1 = .ok (.getfield 87, 3) := by decide +kernel
theorem dX10_where_4 : decode cX10_where 4 = .ok (.iconst 4, 1) := by decide +kernel
theorem dX10_where_5 : decode cX10_where 5 = .ok (.if_icmp .ne 10, 3) := by decide +kernel
theorem dX10_where_8 : decode cX10_where 8 = .ok (.aload_n 0, 1) := by decide +kernel
theorem dX10_where_9 : decode cX10_where 9 = .ok (.getfield 73, 3) := by decide +kernel
theorem dX10_where_12 : decode cX10_where 12 = .ok (.goto 4, 3) := by decide +kernel
theorem dX10_where_15 : decode cX10_where 15 = .ok (.iconst (-1), 1) := by decide +kernel
theorem dX10_where_16 : decode cX10_where 16 = .ok (.ireturn, 1) := by decide +kernel
theorem dX10_refuse_0 : decode cX10_refuse 0 = .ok (.aload_n 0, 1) := by decide +kernel
theorem dX10_refuse_1 : decode cX10_refuse 1 = .ok (.iload_n 1, 1) := by decide +kernel
theorem dX10_refuse_2 : decode cX10_refuse 2 = .ok (.putfield 87, 3) := by decide +kernel
theorem dX10_refuse_5 : decode cX10_refuse 5 = .ok (.iconst (-1), 1) := by decide +kernel
theorem dX10_refuse_6 : decode cX10_refuse 6 = .ok (.ireturn, 1) := by decide +kernel
theorem dX10_answer_0 : decode cX10_answer 0 = .ok (.aload_n 0, 1) := by decide +kernel
theorem dX10_answer_1 : decode cX10_answer 1 = .ok (.iconst 0, 1) := by decide +kernel
theorem dX10_answer_2 : decode cX10_answer 2 = .ok (.putfield 87, 3) := by decide +kernel
theorem dX10_answer_5 : decode cX10_answer 5 = .ok (.iload_n 1, 1) := by decide +kernel
theorem dX10_answer_6 : decode cX10_answer 6 = .ok (.ireturn, 1) := by decide +kernel
theorem dX10_hands_0 : decode cX10_hands 0 = .ok (.aload_n 0, 1) := by decide +kernel
theorem dX10_hands_1 : decode cX10_hands 1 = .ok (.getfield 23, 3) := by decide +kernel
theorem dX10_hands_4 : decode cX10_hands 4 = .ok (.getfield 90, 3) := by decide +kernel
theorem dX10_hands_7 : decode cX10_hands 7 = .ok (.ifCond .ne 9, 3) := by decide +kernel
theorem dX10_hands_10 : decode cX10_hands 10 = .ok (.aload_n 0, 1) := by decide +kernel
theorem dX10_hands_11 : decode cX10_hands 11 = .ok (.iconst 1, 1) := by decide +kernel
theorem dX10_hands_12 : decode cX10_hands 12 = .ok (.invokevirtual 56, 3) := by decide +kernel
theorem dX10_hands_15 : decode cX10_hands 15 = .ok (.ireturn, 1) := by decide +kernel
theorem dX10_hands_16 : decode cX10_hands 16 = .ok (.aload_n 0, 1) := by decide +kernel
theorem dX10_hands_17 : decode cX10_hands 17 = .ok (.aload_n 0, 1) := by decide +kernel
theorem dX10_hands_18 : decode cX10_hands 18 = .ok (.getfield 23, 3) := by decide +kernel
theorem dX10_hands_21 : decode cX10_hands 21 = .ok (.getfield 94, 3) := by decide +kernel
theorem dX10_hands_24 : decode cX10_hands 24 = .ok (.getfield 98, 3) := by decide +kernel
theorem dX10_hands_27 : decode cX10_hands 27 = .ok (.invokevirtual 84, 3) := by decide +kernel
theorem dX10_hands_30 : decode cX10_hands 30 = .ok (.ireturn, 1) := by decide +kernel
theorem dX10_rows_0 : decode cX10_rows 0 = .ok (.aload_n 0, 1) := by decide +kernel
theorem dX10_rows_1 : decode cX10_rows 1 = .ok (.getfield 23, 3) := by decide +kernel
theorem dX10_rows_4 : decode cX10_rows 4 = .ok (.getfield 90, 3) := by decide +kernel
theorem dX10_rows_7 : decode cX10_rows 7 = .ok (.ifCond .ne 9, 3) := by decide +kernel
theorem dX10_rows_10 : decode cX10_rows 10 = .ok (.aload_n 0, 1) := by decide +kernel
theorem dX10_rows_11 : decode cX10_rows 11 = .ok (.iconst 1, 1) := by decide +kernel
theorem dX10_rows_12 : decode cX10_rows 12 = .ok (.invokevirtual 56, 3) := by decide +kernel
theorem dX10_rows_15 : decode cX10_rows 15 = .ok (.ireturn, 1) := by decide +kernel
theorem dX10_rows_16 : decode cX10_rows 16 = .ok (.aload_n 0, 1) := by decide +kernel
theorem dX10_rows_17 : decode cX10_rows 17 = .ok (.aload_n 0, 1) := by decide +kernel
theorem dX10_rows_18 : decode cX10_rows 18 = .ok (.getfield 23, 3) := by decide +kernel
theorem dX10_rows_21 : decode cX10_rows 21 = .ok (.getfield 94, 3) := by decide +kernel
theorem dX10_rows_24 : decode cX10_rows 24 = .ok (.getfield 103, 3) := by decide +kernel
theorem dX10_rows_27 : decode cX10_rows 27 = .ok (.invokevirtual 84, 3) := by decide +kernel
theorem dX10_rows_30 : decode cX10_rows 30 = .ok (.ireturn, 1) := by decide +kernel
theorem dX10_noHand_0 : decode cX10_noHand 0 = .ok (.iload_n 1, 1) := by decide +kernel
theorem dX10_noHand_1 : decode cX10_noHand 1 = .ok (.ifCond .lt 17, 3) := by decide +kernel
theorem dX10_noHand_4 : decode cX10_noHand 4 = .ok (.iload_n 1, 1) := by decide +kernel
theorem dX10_noHand_5 : decode cX10_noHand 5 = .ok (.aload_n 0, 1) := by decide +kernel
theorem dX10_noHand_6 : decode cX10_noHand 6 = .ok (.getfield 23, 3) := by decide +kernel
theorem dX10_noHand_9 : decode cX10_noHand 9 = .ok (.getfield 94, 3) := by decide +kernel
theorem dX10_noHand_12 : decode cX10_noHand 12 = .ok (.getfield 98, 3) := by decide +kernel
theorem dX10_noHand_15 : decode cX10_noHand 15 = .ok (.if_icmp .lt 7, 3) := by decide +kernel
theorem dX10_noHand_18 : decode cX10_noHand 18 = .ok (.iconst 1, 1) := by decide +kernel
theorem dX10_noHand_19 : decode cX10_noHand 19 = .ok (.goto 4, 3) := by decide +kernel
theorem dX10_noHand_22 : decode cX10_noHand 22 = .ok (.iconst 0, 1) := by decide +kernel
theorem dX10_noHand_23 : decode cX10_noHand 23 = .ok (.ireturn, 1) := by decide +kernel
set_option maxHeartbeats 4000000 in
set_option maxRecDepth 100000 in
theorem sX7_step {l : Launch} {D : va_G} {cA : Nat → ClassId} {base : Nat} {sA : Nat → Nat} {r0 : Nat} {h hE : Zh} (hf : fX7_step r0 h = some hE) : zC l yX7_step cX7_step 2 none 1 22 D cA base sA [.ref (base + r0)] h none hE := by
  refine g_entry RX7 (by decide) rfl (Nat.le_of_ble_eq_true rfl) ?_
  intro p e s m args below meth c X hr
  unfold fX7_step at hf
  have hf := zlet_n (x := h) rfl hf
  show zG p l e { frames := 1, cells := 0, slots := 0, locals := 22 } s m args below meth c (MQ below (zQ D cA base h hE none) args s 0 0 (zA base)) 2 D cA base h 0 [(0, .ref (base + r0))] [] h
  refine g_aload_n X 0 dX7_step_0 rfl ?_
  refine g_aload_n X 0 dX7_step_1 rfl ?_
  obtain ⟨hk1, hf⟩ := zite hf
  refine g_get X zf7 hk1 10 (by decide) w_f_RX7_51 rfl rfl dX7_step_2 ?_
  refine g_putI X zf7 hk1 9 (by decide) w_f_RX7_68 rfl rfl rfl dX7_step_5 ?_
  refine g_hp (fun h2 eh2 => ?_)
  have hf := zlet_n eh2 hf
  refine g_sub [0] rfl ?_
  obtain ⟨qq, hlp, hf⟩ := zbd hf
  refine lp_snd (body := (fun q : Zh => bX7_step_8 h r0 q)) (P := (fun q : Zh => zG p l e { frames := 1, cells := 0, slots := 0, locals := 22 } s m args below meth c (MQ below (zQ D cA base h hE none) args s 0 0 (zA base)) 2 D cA base h 8 [(0, .ref (base + r0))] [] q)) (E := (fun (en : Nat) (q : Zh) => zG p l e { frames := 1, cells := 0, slots := 0, locals := 22 } s m args below meth c (MQ below (zQ D cA base h hE none) args s 0 0 (zA base)) 2 D cA base h 46 [(0, .ref (base + r0))] [] q)) ?_ zB h2 qq.1 qq.2 hlp ?_
  · intro h_8 e_8 q_8 hf hc0 hc1
    have hf : bX7_step_8 h r0 h_8 = some (e_8, q_8) := hf
    unfold bX7_step_8 at hf
    show zG p l e { frames := 1, cells := 0, slots := 0, locals := 22 } s m args below meth c (MQ below (zQ D cA base h hE none) args s 0 0 (zA base)) 2 D cA base h 8 [(0, .ref (base + r0))] [] h_8
    refine g_aload_n X 0 dX7_step_8 rfl ?_
    refine g_get X zf7 hk1 9 (by decide) w_f_RX7_68 rfl rfl dX7_step_9 ?_
    refine g_aload_n X 0 dX7_step_12 rfl ?_
    refine g_get X zf7 hk1 3 (by decide) w_f_RX7_38 rfl rfl dX7_step_13 ?_
    refine g_icmp_ge X 46 dX7_step_16 (by decide) (fun hq => ?_) (fun hq => ?_)
    · have hf := zpos hq hf
      cases hf
      have hc1 := hc1 (by decide)
      exact g_sub [0] rfl hc1
    · have hf := zneg hq hf
      refine g_aload_n X 0 dX7_step_19 rfl ?_
      obtain ⟨r_3, hr_3, hf⟩ := zbd hf
      refine g_get X zf7 hk1 2 (by decide) w_f_RX7_9 rfl (zfv_r hr_3 rfl) dX7_step_20 ?_
      refine g_aload_n X 0 dX7_step_23 rfl ?_
      refine g_get X zf7 hk1 9 (by decide) w_f_RX7_68 rfl rfl dX7_step_24 ?_
      obtain ⟨hk4, hf⟩ := zite hf
      obtain ⟨hi5, hf⟩ := zite hf
      refine g_bald X hk4 hi5 dX7_step_27 ?_
      refine g_bipush X (v := 32) dX7_step_28 (by decide) ?_
      refine g_icmp_ne X 46 dX7_step_30 (by decide) (fun hq => ?_) (fun hq => ?_)
      · have hf := zneg hq hf
        cases hf
        have hc1 := hc1 (by decide)
        exact g_sub [0] rfl hc1
      · have hf := zpos hq hf
        refine g_aload_n X 0 dX7_step_33 rfl ?_
        refine g_dup X dX7_step_34 rfl ?_
        refine g_get X zf7 hk1 9 (by decide) w_f_RX7_68 rfl rfl dX7_step_35 ?_
        refine g_iconst X (v := 1) dX7_step_38 (by decide) ?_
        refine g_iadd X dX7_step_39 ?_
        refine g_putI X zf7 hk1 9 (by decide) w_f_RX7_68 rfl rfl rfl dX7_step_40 ?_
        refine g_hp (fun h6 eh6 => ?_)
        have hf := zlet_n eh6 hf
        refine g_goto X 8 dX7_step_43 (by decide) ?_
        cases hf
        exact g_sub [0] rfl (hc0 rfl)
  · obtain ⟨ee, h_k8⟩ := qq
    have hf : kX7_step_8 h r0 ee h_k8 = some hE := hf
    unfold kX7_step_8 at hf
    show zG p l e { frames := 1, cells := 0, slots := 0, locals := 22 } s m args below meth c (MQ below (zQ D cA base h hE none) args s 0 0 (zA base)) 2 D cA base h 46 [(0, .ref (base + r0))] [] h_k8
    refine g_aload_n X 0 dX7_step_46 rfl ?_
    refine g_aload_n X 0 dX7_step_47 rfl ?_
    refine g_get X zf7 hk1 9 (by decide) w_f_RX7_68 rfl rfl dX7_step_48 ?_
    refine g_putI X zf7 hk1 10 (by decide) w_f_RX7_51 rfl rfl rfl dX7_step_51 ?_
    refine g_hp (fun h7 eh7 => ?_)
    have hf := zlet_n eh7 hf
    refine g_aload_n X 0 dX7_step_54 rfl ?_
    refine g_get X zf7 hk1 9 (by decide) w_f_RX7_68 rfl rfl dX7_step_55 ?_
    refine g_aload_n X 0 dX7_step_58 rfl ?_
    refine g_get X zf7 hk1 3 (by decide) w_f_RX7_38 rfl rfl dX7_step_59 ?_
    refine g_icmp_lt X 71 dX7_step_62 (by decide) (fun hq => ?_) (fun hq => ?_)
    · have hf := zpos hq hf
      refine g_aload_n X 0 dX7_step_71 rfl ?_
      obtain ⟨r_8, hr_8, hf⟩ := zbd hf
      refine g_get X zf7 hk1 2 (by decide) w_f_RX7_9 rfl (zfv_r hr_8 rfl) dX7_step_72 ?_
      refine g_aload_n X 0 dX7_step_75 rfl ?_
      refine g_get X zf7 hk1 9 (by decide) w_f_RX7_68 rfl rfl dX7_step_76 ?_
      obtain ⟨hk9, hf⟩ := zite hf
      obtain ⟨hi10, hf⟩ := zite hf
      refine g_bald X hk9 hi10 dX7_step_79 ?_
      refine g_topi (fun y11 ey11 => ?_)
      have hf := zlet_n ey11 hf
      refine g_istore_n X [(1, .int y11), (0, .ref (base + r0))] dX7_step_80 (by decide) rfl ?_
      refine g_iload_n X 0 dX7_step_81 rfl ?_
      refine g_bipush X (v := 97) dX7_step_82 (by decide) ?_
      have hJ118 : ∀ (x1_118 : Int32) (h_118 : Zh), jX7_step_118 h r0 x1_118 h_118 = some hE → zG p l e { frames := 1, cells := 0, slots := 0, locals := 22 } s m args below meth c (MQ below (zQ D cA base h hE none) args s 0 0 (zA base)) 2 D cA base h 118 [(0, .ref (base + r0)), (1, .int x1_118)] [] h_118 := by
        intro x1_118 h_118 hf
        unfold jX7_step_118 at hf
        refine g_iload_n X 1 dX7_step_118 rfl ?_
        refine g_bipush X (v := 48) dX7_step_119 (by decide) ?_
        have hJ154 : ∀ (x1_154 : Int32) (h_154 : Zh), jX7_step_154 h r0 x1_154 h_154 = some hE → zG p l e { frames := 1, cells := 0, slots := 0, locals := 22 } s m args below meth c (MQ below (zQ D cA base h hE none) args s 0 0 (zA base)) 2 D cA base h 154 [(0, .ref (base + r0)), (1, .int x1_154)] [] h_154 := by
          intro x1_154 h_154 hf
          unfold jX7_step_154 at hf
          refine g_aload_n X 0 dX7_step_154 rfl ?_
          refine g_iload_n X 1 dX7_step_155 rfl ?_
          refine g_bipush X (v := 59) dX7_step_156 (by decide) ?_
          have hJ176 : ∀ (t0_176 : Int32) (t1_176 : Nat) (h_176 : Zh), jX7_step_176 h r0 t0_176 t1_176 h_176 = some hE → zG p l e { frames := 1, cells := 0, slots := 0, locals := 22 } s m args below meth c (MQ below (zQ D cA base h hE none) args s 0 0 (zA base)) 2 D cA base h 176 [(0, .ref (base + r0))] [.int t0_176, .ref (base + t1_176)] h_176 := by
            intro t0_176 t1_176 h_176 hf
            unfold jX7_step_176 at hf
            obtain ⟨hk12, hf⟩ := zite hf
            refine g_putI X zf7 hk12 8 (by decide) w_f_RX7_61 rfl rfl rfl dX7_step_176 ?_
            refine g_hp (fun h13 eh13 => ?_)
            have hf := zlet_n eh13 hf
            refine g_aload_n X 0 dX7_step_179 rfl ?_
            refine g_dup X dX7_step_180 rfl ?_
            refine g_get X zf7 hk1 10 (by decide) w_f_RX7_51 rfl rfl dX7_step_181 ?_
            refine g_iconst X (v := 1) dX7_step_184 (by decide) ?_
            refine g_iadd X dX7_step_185 ?_
            refine g_putI X zf7 hk1 10 (by decide) w_f_RX7_51 rfl rfl rfl dX7_step_186 ?_
            refine g_hp (fun h14 eh14 => ?_)
            have hf := zlet_n eh14 hf
            cases hf
            exact g_vret X hr dX7_step_189
          refine g_icmp_ne X 165 dX7_step_158 (by decide) (fun hq => ?_) (fun hq => ?_)
          · have hf := zneg hq hf
            refine g_iload_n X 1 dX7_step_165 rfl ?_
            refine g_bipush X (v := 44) dX7_step_166 (by decide) ?_
            refine g_icmp_ne X 175 dX7_step_168 (by decide) (fun hq => ?_) (fun hq => ?_)
            · have hf := zneg hq hf
              refine g_iconst X (v := 5) dX7_step_175 (by decide) ?_
              refine g_sub [0] rfl ?_
              exact hJ176 _ _ _ hf
            · have hf := zpos hq hf
              refine g_iconst X (v := 4) dX7_step_171 (by decide) ?_
              refine g_goto X 176 dX7_step_172 (by decide) ?_
              refine g_sub [0] rfl ?_
              exact hJ176 _ _ _ hf
          · have hf := zpos hq hf
            refine g_iconst X (v := 3) dX7_step_161 (by decide) ?_
            refine g_goto X 176 dX7_step_162 (by decide) ?_
            refine g_sub [0] rfl ?_
            exact hJ176 _ _ _ hf
        refine g_icmp_lt X 154 dX7_step_121 (by decide) (fun hq => ?_) (fun hq => ?_)
        · have hf := zpos hq hf
          refine g_sub [0, 1] rfl ?_
          exact hJ154 _ _ hf
        · have hf := zneg hq hf
          refine g_iload_n X 1 dX7_step_124 rfl ?_
          refine g_bipush X (v := 57) dX7_step_125 (by decide) ?_
          refine g_icmp_gt X 154 dX7_step_127 (by decide) (fun hq => ?_) (fun hq => ?_)
          · have hf := zpos hq hf
            refine g_sub [0, 1] rfl ?_
            exact hJ154 _ _ hf
          · have hf := zneg hq hf
            refine g_aload_n X 0 dX7_step_130 rfl ?_
            refine g_aload_n X 0 dX7_step_131 rfl ?_
            refine g_bipush X (v := 48) dX7_step_132 (by decide) ?_
            refine g_bipush X (v := 57) dX7_step_134 (by decide) ?_
            obtain ⟨v16, h15, hch15, hf⟩ := zc2_e hf
            refine g_callV X 2 (sX7_runLength hch15) zf7 hk1 ydX7_runLength w_ml_RX7_71 w_instanceMethod_X7_runLength w_sel_X7_runLength w_ini_RX7 w_code_X7_runLength (by decide) rfl (st := [.ref (base + r0)]) rfl rfl (Nat.le_of_ble_eq_true rfl) dX7_step_136 ?_
            refine g_iconst X (v := 3) dX7_step_139 (by decide) ?_
            refine g_icmp_gt X 147 dX7_step_140 (by decide) (fun hq => ?_) (fun hq => ?_)
            · have hf := zpos hq hf
              refine g_iconst X (v := 5) dX7_step_147 (by decide) ?_
              refine g_putI X zf7 hk1 8 (by decide) w_f_RX7_61 rfl rfl rfl dX7_step_148 ?_
              refine g_hp (fun h17 eh17 => ?_)
              have hf := zlet_n eh17 hf
              refine g_goto X 189 dX7_step_151 (by decide) ?_
              cases hf
              exact g_vret X hr dX7_step_189
            · have hf := zneg hq hf
              refine g_iconst X (v := 2) dX7_step_143 (by decide) ?_
              refine g_goto X 148 dX7_step_144 (by decide) ?_
              refine g_putI X zf7 hk1 8 (by decide) w_f_RX7_61 rfl rfl rfl dX7_step_148 ?_
              refine g_hp (fun h18 eh18 => ?_)
              have hf := zlet_n eh18 hf
              refine g_goto X 189 dX7_step_151 (by decide) ?_
              cases hf
              exact g_vret X hr dX7_step_189
      refine g_icmp_lt X 118 dX7_step_84 (by decide) (fun hq => ?_) (fun hq => ?_)
      · have hf := zpos hq hf
        refine g_sub [1, 0] rfl ?_
        exact hJ118 _ _ hf
      · have hf := zneg hq hf
        refine g_iload_n X 0 dX7_step_87 rfl ?_
        refine g_bipush X (v := 122) dX7_step_88 (by decide) ?_
        refine g_icmp_gt X 118 dX7_step_90 (by decide) (fun hq => ?_) (fun hq => ?_)
        · have hf := zpos hq hf
          refine g_sub [1, 0] rfl ?_
          exact hJ118 _ _ hf
        · have hf := zneg hq hf
          refine g_aload_n X 1 dX7_step_93 rfl ?_
          refine g_aload_n X 1 dX7_step_94 rfl ?_
          refine g_bipush X (v := 97) dX7_step_95 (by decide) ?_
          refine g_bipush X (v := 122) dX7_step_97 (by decide) ?_
          obtain ⟨v20, h19, hch19, hf⟩ := zc2_e hf
          refine g_callV X 2 (sX7_runLength hch19) zf7 hk1 ydX7_runLength w_ml_RX7_71 w_instanceMethod_X7_runLength w_sel_X7_runLength w_ini_RX7 w_code_X7_runLength (by decide) rfl (st := [.ref (base + r0)]) rfl rfl (Nat.le_of_ble_eq_true rfl) dX7_step_99 ?_
          refine g_bipush X (v := 8) dX7_step_102 (by decide) ?_
          refine g_icmp_gt X 111 dX7_step_104 (by decide) (fun hq => ?_) (fun hq => ?_)
          · have hf := zpos hq hf
            refine g_iconst X (v := 5) dX7_step_111 (by decide) ?_
            refine g_putI X zf7 hk1 8 (by decide) w_f_RX7_61 rfl rfl rfl dX7_step_112 ?_
            refine g_hp (fun h21 eh21 => ?_)
            have hf := zlet_n eh21 hf
            refine g_goto X 189 dX7_step_115 (by decide) ?_
            cases hf
            exact g_vret X hr dX7_step_189
          · have hf := zneg hq hf
            refine g_iconst X (v := 1) dX7_step_107 (by decide) ?_
            refine g_goto X 112 dX7_step_108 (by decide) ?_
            refine g_putI X zf7 hk1 8 (by decide) w_f_RX7_61 rfl rfl rfl dX7_step_112 ?_
            refine g_hp (fun h22 eh22 => ?_)
            have hf := zlet_n eh22 hf
            refine g_goto X 189 dX7_step_115 (by decide) ?_
            cases hf
            exact g_vret X hr dX7_step_189
    · have hf := zneg hq hf
      refine g_aload_n X 0 dX7_step_65 rfl ?_
      refine g_iconst X (v := 0) dX7_step_66 (by decide) ?_
      refine g_putI X zf7 hk1 8 (by decide) w_f_RX7_61 rfl rfl rfl dX7_step_67 ?_
      refine g_hp (fun h23 eh23 => ?_)
      have hf := zlet_n eh23 hf
      cases hf
      exact g_vret X hr dX7_step_70

set_option maxHeartbeats 4000000 in
set_option maxRecDepth 100000 in
theorem sX7_isWhole {l : Launch} {D : va_G} {cA : Nat → ClassId} {base : Nat} {sA : Nat → Nat} {r0 : Nat} {x1 : Int32} {x2 : Int32} {h hE : Zh} {rE : Int32} (hf : fX7_isWhole r0 x1 x2 h = some (rE, hE)) : zC l yX7_isWhole cX7_isWhole 3 (some .boolean) 1 21 D cA base sA [.ref (base + r0), .int x1, .int x2] h (some (.int rE)) hE := by
  refine g_entry RX7 (by decide) rfl (Nat.le_of_ble_eq_true rfl) ?_
  intro p e s m args below meth c X hr
  unfold fX7_isWhole at hf
  have hf := zlet_n (x := h) rfl hf
  show zG p l e { frames := 1, cells := 0, slots := 0, locals := 21 } s m args below meth c (MQ below (zQ D cA base h hE (some (.int rE))) args s 0 0 (zA base)) 3 D cA base h 0 [(0, .ref (base + r0)), (1, .int x1), (2, .int x2)] [] h
  refine g_aload_n X 0 dX7_isWhole_0 rfl ?_
  obtain ⟨hk1, hf⟩ := zite hf
  refine g_get X zf7 hk1 8 (by decide) w_f_RX7_61 rfl rfl dX7_isWhole_1 ?_
  refine g_iconst X (v := 2) dX7_isWhole_4 (by decide) ?_
  refine g_icmp_eq X 14 dX7_isWhole_5 (by decide) (fun hq => ?_) (fun hq => ?_)
  · have hf := zpos hq hf
    refine g_aload_n X 0 dX7_isWhole_14 rfl ?_
    refine g_get X zf7 hk1 11 (by decide) w_f_RX7_74 rfl rfl dX7_isWhole_15 ?_
    refine g_iload_n X 1 dX7_isWhole_18 rfl ?_
    have hJ30 : ∀  (h_30 : Zh), jX7_isWhole_30 h r0 h_30 = some (rE, hE) → zG p l e { frames := 1, cells := 0, slots := 0, locals := 21 } s m args below meth c (MQ below (zQ D cA base h hE (some (.int rE))) args s 0 0 (zA base)) 3 D cA base h 30 [(0, .ref (base + r0))] [] h_30 := by
      intro  h_30 hf
      unfold jX7_isWhole_30 at hf
      refine g_aload_n X 0 dX7_isWhole_30 rfl ?_
      refine g_iconst X (v := 4) dX7_isWhole_31 (by decide) ?_
      obtain ⟨v3, h2, hch2, hf⟩ := zc2_e hf
      refine g_callV X 1 (sX7_fail hch2) zf7 hk1 ydX7_fail w_ml_RX7_64 w_instanceMethod_X7_fail w_sel_X7_fail w_ini_RX7 w_code_X7_fail (by decide) rfl (st := []) rfl rfl (Nat.le_of_ble_eq_true rfl) dX7_isWhole_32 ?_
      refine g_if_eq X 42 dX7_isWhole_35 (by decide) (fun hq => ?_) (fun hq => ?_)
      · have hf := zpos hq hf
        refine g_iconst X (v := 0) dX7_isWhole_42 (by decide) ?_
        obtain ⟨rfl, rfl⟩ := zsm hf
        exact g_zret X (Or.inl rfl) hr dX7_isWhole_43
      · have hf := zneg hq hf
        refine g_iconst X (v := 1) dX7_isWhole_38 (by decide) ?_
        refine g_goto X 43 dX7_isWhole_39 (by decide) ?_
        obtain ⟨rfl, rfl⟩ := zsm hf
        exact g_zret X (Or.inr rfl) hr dX7_isWhole_43
    refine g_icmp_lt X 30 dX7_isWhole_19 (by decide) (fun hq => ?_) (fun hq => ?_)
    · have hf := zpos hq hf
      refine g_sub [0] rfl ?_
      exact hJ30 _ hf
    · have hf := zneg hq hf
      refine g_aload_n X 0 dX7_isWhole_22 rfl ?_
      refine g_get X zf7 hk1 11 (by decide) w_f_RX7_74 rfl rfl dX7_isWhole_23 ?_
      refine g_iload_n X 2 dX7_isWhole_26 rfl ?_
      refine g_icmp_le X 38 dX7_isWhole_27 (by decide) (fun hq => ?_) (fun hq => ?_)
      · have hf := zpos hq hf
        refine g_iconst X (v := 1) dX7_isWhole_38 (by decide) ?_
        refine g_goto X 43 dX7_isWhole_39 (by decide) ?_
        obtain ⟨rfl, rfl⟩ := zsm hf
        exact g_zret X (Or.inr rfl) hr dX7_isWhole_43
      · have hf := zneg hq hf
        refine g_sub [0] rfl ?_
        exact hJ30 _ hf
  · have hf := zneg hq hf
    refine g_aload_n X 0 dX7_isWhole_8 rfl ?_
    refine g_iconst X (v := 1) dX7_isWhole_9 (by decide) ?_
    obtain ⟨v5, h4, hch4, hf⟩ := zc2_e hf
    refine g_callV X 1 (sX7_fail hch4) zf7 hk1 ydX7_fail w_ml_RX7_64 w_instanceMethod_X7_fail w_sel_X7_fail w_ini_RX7 w_code_X7_fail (by decide) rfl (st := []) rfl rfl (Nat.le_of_ble_eq_true rfl) dX7_isWhole_10 ?_
    obtain ⟨hb6, hf⟩ := zite hf
    obtain ⟨rfl, rfl⟩ := zsm hf
    exact g_zret X hb6 hr dX7_isWhole_13

set_option maxHeartbeats 4000000 in
set_option maxRecDepth 100000 in
theorem sX7_isNameOf {l : Launch} {D : va_G} {cA : Nat → ClassId} {base : Nat} {sA : Nat → Nat} {r0 : Nat} {x1 : Int32} {h hE : Zh} {rE : Int32} (hf : fX7_isNameOf r0 x1 h = some (rE, hE)) : zC l yX7_isNameOf cX7_isNameOf 3 (some .boolean) 0 0 D cA base sA [.ref (base + r0), .int x1] h (some (.int rE)) hE := by
  refine g_entry RX7 (by decide) rfl (Nat.le_of_ble_eq_true rfl) ?_
  intro p e s m args below meth c X hr
  unfold fX7_isNameOf at hf
  have hf := zlet_n (x := h) rfl hf
  show zG p l e { frames := 0, cells := 0, slots := 0, locals := 0 } s m args below meth c (MQ below (zQ D cA base h hE (some (.int rE))) args s 0 0 (zA base)) 3 D cA base h 0 [(0, .ref (base + r0)), (1, .int x1)] [] h
  refine g_aload_n X 0 dX7_isNameOf_0 rfl ?_
  obtain ⟨hk1, hf⟩ := zite hf
  refine g_get X zf7 hk1 10 (by decide) w_f_RX7_51 rfl rfl dX7_isNameOf_1 ?_
  refine g_aload_n X 0 dX7_isNameOf_4 rfl ?_
  refine g_get X zf7 hk1 9 (by decide) w_f_RX7_68 rfl rfl dX7_isNameOf_5 ?_
  refine g_isub X dX7_isNameOf_8 ?_
  refine g_aload_n X 0 dX7_isNameOf_9 rfl ?_
  obtain ⟨r_2, hr_2, hf⟩ := zbd hf
  refine g_get X zf7 hk1 6 (by decide) w_f_RX7_26 rfl (zfv_r hr_2 rfl) dX7_isNameOf_10 ?_
  refine g_iload_n X 1 dX7_isNameOf_13 rfl ?_
  obtain ⟨hk3, hf⟩ := zite hf
  obtain ⟨hi4, hf⟩ := zite hf
  refine g_iald X hk3 hi4 dX7_isNameOf_14 ?_
  refine g_icmp_eq X 20 dX7_isNameOf_15 (by decide) (fun hq => ?_) (fun hq => ?_)
  · have hf := zpos hq hf
    refine g_iconst X (v := 0) dX7_isNameOf_20 (by decide) ?_
    refine g_istore_n X [(2, .int ((0 : Int32))), (0, .ref (base + r0)), (1, .int x1)] dX7_isNameOf_21 (by decide) rfl ?_
    refine g_sub [1, 2, 0] rfl ?_
    obtain ⟨qq, hlp, hf⟩ := zbd hf
    refine lp_snd (body := (fun q : Int32 × Zh => bX7_isNameOf_22 h r0 x1 q.1 q.2)) (P := (fun q : Int32 × Zh => zG p l e { frames := 0, cells := 0, slots := 0, locals := 0 } s m args below meth c (MQ below (zQ D cA base h hE (some (.int rE))) args s 0 0 (zA base)) 3 D cA base h 22 [(0, .ref (base + r0)), (1, .int x1), (2, .int q.1)] [] q.2)) (E := (fun (en : Nat) (q : Int32 × Zh) => if en = 1 then zG p l e { frames := 0, cells := 0, slots := 0, locals := 0 } s m args below meth c (MQ below (zQ D cA base h hE (some (.int rE))) args s 0 0 (zA base)) 3 D cA base h 59 [] [] q.2 else zG p l e { frames := 0, cells := 0, slots := 0, locals := 0 } s m args below meth c (MQ below (zQ D cA base h hE (some (.int rE))) args s 0 0 (zA base)) 3 D cA base h 67 [] [] q.2)) ?_ zB ((0 : Int32), h) qq.1 qq.2 hlp ?_
    · intro q e_22 q_22 hf hc0 hc1
      obtain ⟨x2_22, h_22⟩ := q
      have hf : bX7_isNameOf_22 h r0 x1 x2_22 h_22 = some (e_22, q_22) := hf
      unfold bX7_isNameOf_22 at hf
      show zG p l e { frames := 0, cells := 0, slots := 0, locals := 0 } s m args below meth c (MQ below (zQ D cA base h hE (some (.int rE))) args s 0 0 (zA base)) 3 D cA base h 22 [(0, .ref (base + r0)), (1, .int x1), (2, .int x2_22)] [] h_22
      refine g_iload_n X 2 dX7_isNameOf_22 rfl ?_
      refine g_aload_n X 0 dX7_isNameOf_23 rfl ?_
      obtain ⟨r_5, hr_5, hf⟩ := zbd hf
      refine g_get X zf7 hk1 6 (by decide) w_f_RX7_26 rfl (zfv_r hr_5 rfl) dX7_isNameOf_24 ?_
      refine g_iload_n X 1 dX7_isNameOf_27 rfl ?_
      obtain ⟨hk6, hf⟩ := zite hf
      obtain ⟨hi7, hf⟩ := zite hf
      refine g_iald X hk6 hi7 dX7_isNameOf_28 ?_
      refine g_icmp_ge X 67 dX7_isNameOf_29 (by decide) (fun hq => ?_) (fun hq => ?_)
      · have hf := zpos hq hf
        cases hf
        have hc1 := hc1 (by decide)
        exact g_sub [] rfl (zun_n (by decide) hc1)
      · have hf := zneg hq hf
        refine g_aload_n X 0 dX7_isNameOf_32 rfl ?_
        obtain ⟨r_8, hr_8, hf⟩ := zbd hf
        refine g_get X zf7 hk1 2 (by decide) w_f_RX7_9 rfl (zfv_r hr_8 rfl) dX7_isNameOf_33 ?_
        refine g_aload_n X 0 dX7_isNameOf_36 rfl ?_
        refine g_get X zf7 hk1 9 (by decide) w_f_RX7_68 rfl rfl dX7_isNameOf_37 ?_
        refine g_iload_n X 2 dX7_isNameOf_40 rfl ?_
        refine g_iadd X dX7_isNameOf_41 ?_
        obtain ⟨hk9, hf⟩ := zite hf
        obtain ⟨hi10, hf⟩ := zite hf
        refine g_bald X hk9 hi10 dX7_isNameOf_42 ?_
        refine g_aload_n X 0 dX7_isNameOf_43 rfl ?_
        obtain ⟨r_11, hr_11, hf⟩ := zbd hf
        refine g_get X zf7 hk1 2 (by decide) w_f_RX7_9 rfl (zfv_r hr_11 rfl) dX7_isNameOf_44 ?_
        refine g_aload_n X 0 dX7_isNameOf_47 rfl ?_
        obtain ⟨r_12, hr_12, hf⟩ := zbd hf
        refine g_get X zf7 hk1 5 (by decide) w_f_RX7_22 rfl (zfv_r hr_12 rfl) dX7_isNameOf_48 ?_
        refine g_iload_n X 1 dX7_isNameOf_51 rfl ?_
        obtain ⟨hk13, hf⟩ := zite hf
        obtain ⟨hi14, hf⟩ := zite hf
        refine g_iald X hk13 hi14 dX7_isNameOf_52 ?_
        refine g_iload_n X 2 dX7_isNameOf_53 rfl ?_
        refine g_iadd X dX7_isNameOf_54 ?_
        obtain ⟨hk15, hf⟩ := zite hf
        obtain ⟨hi16, hf⟩ := zite hf
        refine g_bald X hk15 hi16 dX7_isNameOf_55 ?_
        refine g_icmp_eq X 61 dX7_isNameOf_56 (by decide) (fun hq => ?_) (fun hq => ?_)
        · have hf := zpos hq hf
          obtain ⟨y17, ey17⟩ : ∃ y : Int32, y = x2_22 + (1 : Int32) := ⟨_, rfl⟩
          have hf := zlet_n ey17 hf
          refine g_iinc X (j := 2) [(2, .int y17), (0, .ref (base + r0)), (1, .int x1)] dX7_isNameOf_61 rfl (by rw [ey17]; rfl) (by decide) rfl ?_
          refine g_goto X 22 dX7_isNameOf_64 (by decide) ?_
          cases hf
          exact g_sub [1, 2, 0] rfl (hc0 rfl)
        · have hf := zneg hq hf
          cases hf
          have hc1 := hc1 (by decide)
          exact g_sub [] rfl (zun_p rfl hc1)
    · obtain ⟨ee, x2_k22, h_k22⟩ := qq
      have hf : kX7_isNameOf_22 h ee x2_k22 h_k22 = some (rE, hE) := hf
      unfold kX7_isNameOf_22 at hf
      by_cases hee0 : ee = 1
      · have hf := zpos hee0 hf
        refine zifp hee0 ?_
        show zG p l e { frames := 0, cells := 0, slots := 0, locals := 0 } s m args below meth c (MQ below (zQ D cA base h hE (some (.int rE))) args s 0 0 (zA base)) 3 D cA base h 59 [] [] h_k22
        refine g_iconst X (v := 0) dX7_isNameOf_59 (by decide) ?_
        obtain ⟨rfl, rfl⟩ := zsm hf
        exact g_zret X (Or.inl rfl) hr dX7_isNameOf_60
      have hf := zneg hee0 hf
      refine zifn hee0 ?_
      show zG p l e { frames := 0, cells := 0, slots := 0, locals := 0 } s m args below meth c (MQ below (zQ D cA base h hE (some (.int rE))) args s 0 0 (zA base)) 3 D cA base h 67 [] [] h_k22
      refine g_iconst X (v := 1) dX7_isNameOf_67 (by decide) ?_
      obtain ⟨rfl, rfl⟩ := zsm hf
      exact g_zret X (Or.inr rfl) hr dX7_isNameOf_68
  · have hf := zneg hq hf
    refine g_iconst X (v := 0) dX7_isNameOf_18 (by decide) ?_
    obtain ⟨rfl, rfl⟩ := zsm hf
    exact g_zret X (Or.inl rfl) hr dX7_isNameOf_19

set_option maxHeartbeats 4000000 in
set_option maxRecDepth 100000 in
theorem sX7_isUntold {l : Launch} {D : va_G} {cA : Nat → ClassId} {base : Nat} {sA : Nat → Nat} {r0 : Nat} {x1 : Int32} {x2 : Int32} {h hE : Zh} {rE : Int32} (hf : fX7_isUntold r0 x1 x2 h = some (rE, hE)) : zC l yX7_isUntold cX7_isUntold 3 (some .boolean) 2 43 D cA base sA [.ref (base + r0), .int x1, .int x2] h (some (.int rE)) hE := by
  refine g_entry RX7 (by decide) rfl (Nat.le_of_ble_eq_true rfl) ?_
  intro p e s m args below meth c X hr
  unfold fX7_isUntold at hf
  have hf := zlet_n (x := h) rfl hf
  show zG p l e { frames := 2, cells := 0, slots := 0, locals := 43 } s m args below meth c (MQ below (zQ D cA base h hE (some (.int rE))) args s 0 0 (zA base)) 3 D cA base h 0 [(0, .ref (base + r0)), (1, .int x1), (2, .int x2)] [] h
  refine g_aload_n X 0 dX7_isUntold_0 rfl ?_
  refine g_iconst X (v := 0) dX7_isUntold_1 (by decide) ?_
  refine g_iload_n X 1 dX7_isUntold_2 rfl ?_
  refine g_iconst X (v := 1) dX7_isUntold_3 (by decide) ?_
  refine g_isub X dX7_isUntold_4 ?_
  obtain ⟨hk1, hf⟩ := zite hf
  obtain ⟨v3, h2, hch2, hf⟩ := zc2_e hf
  refine g_callV X 2 (sX7_isWhole hch2) zf7 hk1 ydX7_isWhole w_ml_RX7_91 w_instanceMethod_X7_isWhole w_sel_X7_isWhole w_ini_RX7 w_code_X7_isWhole (by decide) rfl (st := []) rfl rfl (Nat.le_of_ble_eq_true rfl) dX7_isUntold_5 ?_
  refine g_if_ne X 13 dX7_isUntold_8 (by decide) (fun hq => ?_) (fun hq => ?_)
  · have hf := zneg hq hf
    refine g_iload_n X 2 dX7_isUntold_13 rfl ?_
    refine g_aload_n X 0 dX7_isUntold_14 rfl ?_
    refine g_get X zf7 hk1 11 (by decide) w_f_RX7_74 rfl rfl dX7_isUntold_15 ?_
    refine g_ishr X dX7_isUntold_18 ?_
    refine g_iconst X (v := 1) dX7_isUntold_19 (by decide) ?_
    refine g_iand X dX7_isUntold_20 ?_
    refine g_if_eq X 32 dX7_isUntold_21 (by decide) (fun hq => ?_) (fun hq => ?_)
    · have hf := zpos hq hf
      refine g_iconst X (v := 1) dX7_isUntold_32 (by decide) ?_
      refine g_goto X 37 dX7_isUntold_33 (by decide) ?_
      obtain ⟨rfl, rfl⟩ := zsm hf
      exact g_zret X (Or.inr rfl) hr dX7_isUntold_37
    · have hf := zneg hq hf
      refine g_aload_n X 0 dX7_isUntold_24 rfl ?_
      refine g_iconst X (v := 3) dX7_isUntold_25 (by decide) ?_
      obtain ⟨v5, h4, hch4, hf⟩ := zc2_e hf
      refine g_callV X 1 (sX7_fail hch4) zf7 hk1 ydX7_fail w_ml_RX7_64 w_instanceMethod_X7_fail w_sel_X7_fail w_ini_RX7 w_code_X7_fail (by decide) rfl (st := []) rfl rfl (Nat.le_of_ble_eq_true rfl) dX7_isUntold_26 ?_
      refine g_if_eq X 36 dX7_isUntold_29 (by decide) (fun hq => ?_) (fun hq => ?_)
      · have hf := zpos hq hf
        refine g_iconst X (v := 0) dX7_isUntold_36 (by decide) ?_
        obtain ⟨rfl, rfl⟩ := zsm hf
        exact g_zret X (Or.inl rfl) hr dX7_isUntold_37
      · have hf := zneg hq hf
        refine g_iconst X (v := 1) dX7_isUntold_32 (by decide) ?_
        refine g_goto X 37 dX7_isUntold_33 (by decide) ?_
        obtain ⟨rfl, rfl⟩ := zsm hf
        exact g_zret X (Or.inr rfl) hr dX7_isUntold_37
  · have hf := zpos hq hf
    refine g_iconst X (v := 0) dX7_isUntold_11 (by decide) ?_
    obtain ⟨rfl, rfl⟩ := zsm hf
    exact g_zret X (Or.inl rfl) hr dX7_isUntold_12

set_option maxHeartbeats 4000000 in
set_option maxRecDepth 100000 in
theorem sX7_readCards {l : Launch} {D : va_G} {cA : Nat → ClassId} {base : Nat} {sA : Nat → Nat} {r0 : Nat} {x1 : Int32} {h hE : Zh} {rE : Int32} (hf : fX7_readCards r0 x1 h = some (rE, hE)) : zC l yX7_readCards cX7_readCards 4 (some .boolean) 3 65 D cA base sA [.ref (base + r0), .int x1] h (some (.int rE)) hE := by
  refine g_entry RX7 (by decide) rfl (Nat.le_of_ble_eq_true rfl) ?_
  intro p e s m args below meth c X hr
  unfold fX7_readCards at hf
  have hf := zlet_n (x := h) rfl hf
  show zG p l e { frames := 3, cells := 0, slots := 0, locals := 65 } s m args below meth c (MQ below (zQ D cA base h hE (some (.int rE))) args s 0 0 (zA base)) 4 D cA base h 0 [(0, .ref (base + r0)), (1, .int x1)] [] h
  refine g_iconst X (v := 0) dX7_readCards_0 (by decide) ?_
  refine g_istore_n X [(2, .int ((0 : Int32))), (0, .ref (base + r0)), (1, .int x1)] dX7_readCards_1 (by decide) rfl ?_
  refine g_iconst X (v := 0) dX7_readCards_2 (by decide) ?_
  refine g_istore_n X [(3, .int ((0 : Int32))), (2, .int ((0 : Int32))), (0, .ref (base + r0)), (1, .int x1)] dX7_readCards_3 (by decide) rfl ?_
  refine g_sub [2, 3, 1, 0] rfl ?_
  obtain ⟨qq, hlp, hf⟩ := zbd hf
  refine lp_snd (body := (fun q : Int32 × Int32 × Zh => bX7_readCards_4 h r0 x1 q.1 q.2.1 q.2.2)) (P := (fun q : Int32 × Int32 × Zh => zG p l e { frames := 3, cells := 0, slots := 0, locals := 65 } s m args below meth c (MQ below (zQ D cA base h hE (some (.int rE))) args s 0 0 (zA base)) 4 D cA base h 4 [(0, .ref (base + r0)), (1, .int x1), (2, .int q.1), (3, .int q.2.1)] [] q.2.2)) (E := (fun (en : Nat) (q : Int32 × Int32 × Zh) => if en = 1 then zG p l e { frames := 3, cells := 0, slots := 0, locals := 65 } s m args below meth c (MQ below (zQ D cA base h hE (some (.int rE))) args s 0 0 (zA base)) 4 D cA base h 21 [(0, .ref (base + r0))] [] q.2.2 else if en = 2 then zG p l e { frames := 3, cells := 0, slots := 0, locals := 65 } s m args below meth c (MQ below (zQ D cA base h hE (some (.int rE))) args s 0 0 (zA base)) 4 D cA base h 49 [] [] q.2.2 else zG p l e { frames := 3, cells := 0, slots := 0, locals := 65 } s m args below meth c (MQ below (zQ D cA base h hE (some (.int rE))) args s 0 0 (zA base)) 4 D cA base h 80 [] [] q.2.2)) ?_ zB ((0 : Int32), ((0 : Int32), h)) qq.1 qq.2 hlp ?_
  · intro q e_4 q_4 hf hc0 hc1
    obtain ⟨x2_4, x3_4, h_4⟩ := q
    have hf : bX7_readCards_4 h r0 x1 x2_4 x3_4 h_4 = some (e_4, q_4) := hf
    unfold bX7_readCards_4 at hf
    show zG p l e { frames := 3, cells := 0, slots := 0, locals := 65 } s m args below meth c (MQ below (zQ D cA base h hE (some (.int rE))) args s 0 0 (zA base)) 4 D cA base h 4 [(0, .ref (base + r0)), (1, .int x1), (2, .int x2_4), (3, .int x3_4)] [] h_4
    refine g_iload_n X 3 dX7_readCards_4 rfl ?_
    refine g_iload_n X 1 dX7_readCards_5 rfl ?_
    refine g_icmp_ge X 80 dX7_readCards_6 (by decide) (fun hq => ?_) (fun hq => ?_)
    · have hf := zpos hq hf
      cases hf
      have hc1 := hc1 (by decide)
      exact g_sub [] rfl (zun_n (by decide) (zun_n (by decide) hc1))
    · have hf := zneg hq hf
      refine g_iload_n X 3 dX7_readCards_9 rfl ?_
      have hJ31 : ∀ (x2_31 : Int32) (x3_31 : Int32) (h_31 : Zh), jX7_readCards_31 h r0 x1 x2_31 x3_31 h_31 = some (e_4, q_4) → zG p l e { frames := 3, cells := 0, slots := 0, locals := 65 } s m args below meth c (MQ below (zQ D cA base h hE (some (.int rE))) args s 0 0 (zA base)) 4 D cA base h 31 [(0, .ref (base + r0)), (1, .int x1), (2, .int x2_31), (3, .int x3_31)] [] h_31 := by
        intro x2_31 x3_31 h_31 hf
        unfold jX7_readCards_31 at hf
        refine g_aload_n X 0 dX7_readCards_31 rfl ?_
        refine g_aload_n X 0 dX7_readCards_32 rfl ?_
        obtain ⟨hk1, hf⟩ := zite hf
        obtain ⟨r_2, hr_2, hf⟩ := zbd hf
        refine g_get X zf7 hk1 4 (by decide) w_f_RX7_18 rfl (zfv_r hr_2 rfl) dX7_readCards_33 ?_
        obtain ⟨hk3, hf⟩ := zite hf
        obtain ⟨r_4, hr_4, hf⟩ := zbd hf
        refine g_get X zf9 hk3 1 (by decide) w_f_RX7_114 rfl (zfv_r hr_4 rfl) dX7_readCards_36 ?_
        obtain ⟨hk5, hf⟩ := zite hf
        refine g_get X zf0 hk5 0 (by decide) w_f_RX7_124 rfl rfl dX7_readCards_39 ?_
        refine g_iload_n X 2 dX7_readCards_42 rfl ?_
        obtain ⟨v7, h6, hch6, hf⟩ := zc2_e hf
        refine g_callV X 2 (sX7_isUntold hch6) zf7 hk1 ydX7_isUntold w_ml_RX7_257 w_instanceMethod_X7_isUntold w_sel_X7_isUntold w_ini_RX7 w_code_X7_isUntold (by decide) rfl (st := []) rfl rfl (Nat.le_of_ble_eq_true rfl) dX7_readCards_43 ?_
        refine g_if_ne X 51 dX7_readCards_46 (by decide) (fun hq => ?_) (fun hq => ?_)
        · have hf := zneg hq hf
          refine g_aload_n X 0 dX7_readCards_51 rfl ?_
          obtain ⟨r_8, hr_8, hf⟩ := zbd hf
          refine g_get X zf7 hk1 7 (by decide) w_f_RX7_29 rfl (zfv_r hr_8 rfl) dX7_readCards_52 ?_
          refine g_iload_n X 3 dX7_readCards_55 rfl ?_
          refine g_aload_n X 0 dX7_readCards_56 rfl ?_
          refine g_get X zf7 hk1 11 (by decide) w_f_RX7_74 rfl rfl dX7_readCards_57 ?_
          obtain ⟨hk9, hf⟩ := zite hf
          obtain ⟨hi10, hf⟩ := zite hf
          refine g_iast X hk9 hi10 dX7_readCards_60 ?_
          refine g_hp (fun h11 eh11 => ?_)
          have hf := zlet_n eh11 hf
          refine g_iload_n X 2 dX7_readCards_61 rfl ?_
          refine g_iconst X (v := 1) dX7_readCards_62 (by decide) ?_
          refine g_aload_n X 0 dX7_readCards_63 rfl ?_
          refine g_get X zf7 hk1 11 (by decide) w_f_RX7_74 rfl rfl dX7_readCards_64 ?_
          refine g_ishl X dX7_readCards_67 ?_
          refine g_ior X dX7_readCards_68 ?_
          refine g_topi (fun y12 ey12 => ?_)
          have hf := zlet_n ey12 hf
          refine g_istore_n X [(2, .int y12), (0, .ref (base + r0)), (1, .int x1), (3, .int x3_31)] dX7_readCards_69 (by decide) rfl ?_
          refine g_aload_n X 1 dX7_readCards_70 rfl ?_
          obtain ⟨h13, hch13, hf⟩ := zbd hf
          refine g_callV X 0 (sX7_step hch13) zf7 hk1 ydX7_step w_ml_RX7_54 w_instanceMethod_X7_step w_sel_X7_step w_ini_RX7 w_code_X7_step (by decide) rfl (st := []) rfl rfl (Nat.le_of_ble_eq_true rfl) dX7_readCards_71 ?_
          obtain ⟨y14, ey14⟩ : ∃ y : Int32, y = x3_31 + (1 : Int32) := ⟨_, rfl⟩
          have hf := zlet_n ey14 hf
          refine g_iinc X (j := 3) [(3, .int y14), (2, .int y12), (0, .ref (base + r0)), (1, .int x1)] dX7_readCards_74 rfl (by rw [ey14]; rfl) (by decide) rfl ?_
          refine g_goto X 4 dX7_readCards_77 (by decide) ?_
          cases hf
          exact g_sub [2, 3, 1, 0] rfl (hc0 rfl)
        · have hf := zpos hq hf
          cases hf
          have hc1 := hc1 (by decide)
          exact g_sub [] rfl (zun_p rfl (zun_n (by decide) hc1))
      refine g_if_le X 31 dX7_readCards_10 (by decide) (fun hq => ?_) (fun hq => ?_)
      · have hf := zpos hq hf
        refine g_sub [0, 1, 2, 3] rfl ?_
        exact hJ31 _ _ _ hf
      · have hf := zneg hq hf
        refine g_aload_n X 0 dX7_readCards_13 rfl ?_
        obtain ⟨hk15, hf⟩ := zite hf
        refine g_get X zf7 hk15 8 (by decide) w_f_RX7_61 rfl rfl dX7_readCards_14 ?_
        refine g_iconst X (v := 4) dX7_readCards_17 (by decide) ?_
        refine g_icmp_eq X 27 dX7_readCards_18 (by decide) (fun hq => ?_) (fun hq => ?_)
        · have hf := zpos hq hf
          refine g_aload_n X 0 dX7_readCards_27 rfl ?_
          obtain ⟨h16, hch16, hf⟩ := zbd hf
          refine g_callV X 0 (sX7_step hch16) zf7 hk15 ydX7_step w_ml_RX7_54 w_instanceMethod_X7_step w_sel_X7_step w_ini_RX7 w_code_X7_step (by decide) rfl (st := []) rfl rfl (Nat.le_of_ble_eq_true rfl) dX7_readCards_28 ?_
          refine g_sub [0, 1, 2, 3] rfl ?_
          exact hJ31 _ _ _ hf
        · have hf := zneg hq hf
          cases hf
          have hc1 := hc1 (by decide)
          exact g_sub [0] rfl (zun_p rfl hc1)
  · obtain ⟨ee, x2_k4, x3_k4, h_k4⟩ := qq
    have hf : kX7_readCards_4 h r0 ee x2_k4 x3_k4 h_k4 = some (rE, hE) := hf
    unfold kX7_readCards_4 at hf
    by_cases hee0 : ee = 1
    · have hf := zpos hee0 hf
      refine zifp hee0 ?_
      show zG p l e { frames := 3, cells := 0, slots := 0, locals := 65 } s m args below meth c (MQ below (zQ D cA base h hE (some (.int rE))) args s 0 0 (zA base)) 4 D cA base h 21 [(0, .ref (base + r0))] [] h_k4
      refine g_aload_n X 0 dX7_readCards_21 rfl ?_
      refine g_iconst X (v := 1) dX7_readCards_22 (by decide) ?_
      obtain ⟨hk17, hf⟩ := zite hf
      obtain ⟨v19, h18, hch18, hf⟩ := zc2_e hf
      refine g_callV X 1 (sX7_fail hch18) zf7 hk17 ydX7_fail w_ml_RX7_64 w_instanceMethod_X7_fail w_sel_X7_fail w_ini_RX7 w_code_X7_fail (by decide) rfl (st := []) rfl rfl (Nat.le_of_ble_eq_true rfl) dX7_readCards_23 ?_
      obtain ⟨hb20, hf⟩ := zite hf
      obtain ⟨rfl, rfl⟩ := zsm hf
      exact g_zret X hb20 hr dX7_readCards_26
    have hf := zneg hee0 hf
    refine zifn hee0 ?_
    by_cases hee1 : ee = 2
    · have hf := zpos hee1 hf
      refine zifp hee1 ?_
      show zG p l e { frames := 3, cells := 0, slots := 0, locals := 65 } s m args below meth c (MQ below (zQ D cA base h hE (some (.int rE))) args s 0 0 (zA base)) 4 D cA base h 49 [] [] h_k4
      refine g_iconst X (v := 0) dX7_readCards_49 (by decide) ?_
      obtain ⟨rfl, rfl⟩ := zsm hf
      exact g_zret X (Or.inl rfl) hr dX7_readCards_50
    have hf := zneg hee1 hf
    refine zifn hee1 ?_
    show zG p l e { frames := 3, cells := 0, slots := 0, locals := 65 } s m args below meth c (MQ below (zQ D cA base h hE (some (.int rE))) args s 0 0 (zA base)) 4 D cA base h 80 [] [] h_k4
    refine g_iconst X (v := 1) dX7_readCards_80 (by decide) ?_
    obtain ⟨rfl, rfl⟩ := zsm hf
    exact g_zret X (Or.inr rfl) hr dX7_readCards_81

set_option maxHeartbeats 4000000 in
set_option maxRecDepth 100000 in
theorem sX7_readTilts {l : Launch} {D : va_G} {cA : Nat → ClassId} {base : Nat} {sA : Nat → Nat} {r0 : Nat} {x1 : Int32} {h hE : Zh} {rE : Int32} (hf : fX7_readTilts r0 x1 h = some (rE, hE)) : zC l yX7_readTilts cX7_readTilts 4 (some .int) 3 65 D cA base sA [.ref (base + r0), .int x1] h (some (.int rE)) hE := by
  refine g_entry RX7 (by decide) rfl (Nat.le_of_ble_eq_true rfl) ?_
  intro p e s m args below meth c X hr
  unfold fX7_readTilts at hf
  have hf := zlet_n (x := h) rfl hf
  show zG p l e { frames := 3, cells := 0, slots := 0, locals := 65 } s m args below meth c (MQ below (zQ D cA base h hE (some (.int rE))) args s 0 0 (zA base)) 4 D cA base h 0 [(0, .ref (base + r0)), (1, .int x1)] [] h
  refine g_iconst X (v := 0) dX7_readTilts_0 (by decide) ?_
  refine g_istore_n X [(2, .int ((0 : Int32))), (0, .ref (base + r0)), (1, .int x1)] dX7_readTilts_1 (by decide) rfl ?_
  refine g_iconst X (v := 0) dX7_readTilts_2 (by decide) ?_
  refine g_istore_n X [(3, .int ((0 : Int32))), (2, .int ((0 : Int32))), (0, .ref (base + r0)), (1, .int x1)] dX7_readTilts_3 (by decide) rfl ?_
  refine g_sub [2, 3, 1, 0] rfl ?_
  obtain ⟨qq, hlp, hf⟩ := zbd hf
  refine lp_snd (body := (fun q : Int32 × Int32 × Zh => bX7_readTilts_4 h r0 x1 q.1 q.2.1 q.2.2)) (P := (fun q : Int32 × Int32 × Zh => zG p l e { frames := 3, cells := 0, slots := 0, locals := 65 } s m args below meth c (MQ below (zQ D cA base h hE (some (.int rE))) args s 0 0 (zA base)) 4 D cA base h 4 [(0, .ref (base + r0)), (1, .int x1), (2, .int q.1), (3, .int q.2.1)] [] q.2.2)) (E := (fun (en : Nat) (q : Int32 × Int32 × Zh) => if en = 1 then zG p l e { frames := 3, cells := 0, slots := 0, locals := 65 } s m args below meth c (MQ below (zQ D cA base h hE (some (.int rE))) args s 0 0 (zA base)) 4 D cA base h 21 [] [] q.2.2 else if en = 2 then zG p l e { frames := 3, cells := 0, slots := 0, locals := 65 } s m args below meth c (MQ below (zQ D cA base h hE (some (.int rE))) args s 0 0 (zA base)) 4 D cA base h 44 [(2, .int q.1)] [] q.2.2 else zG p l e { frames := 3, cells := 0, slots := 0, locals := 65 } s m args below meth c (MQ below (zQ D cA base h hE (some (.int rE))) args s 0 0 (zA base)) 4 D cA base h 56 [] [] q.2.2)) ?_ zB ((0 : Int32), ((0 : Int32), h)) qq.1 qq.2 hlp ?_
  · intro q e_4 q_4 hf hc0 hc1
    obtain ⟨x2_4, x3_4, h_4⟩ := q
    have hf : bX7_readTilts_4 h r0 x1 x2_4 x3_4 h_4 = some (e_4, q_4) := hf
    unfold bX7_readTilts_4 at hf
    show zG p l e { frames := 3, cells := 0, slots := 0, locals := 65 } s m args below meth c (MQ below (zQ D cA base h hE (some (.int rE))) args s 0 0 (zA base)) 4 D cA base h 4 [(0, .ref (base + r0)), (1, .int x1), (2, .int x2_4), (3, .int x3_4)] [] h_4
    refine g_iload_n X 3 dX7_readTilts_4 rfl ?_
    refine g_aload_n X 0 dX7_readTilts_5 rfl ?_
    obtain ⟨hk1, hf⟩ := zite hf
    refine g_get X zf7 hk1 3 (by decide) w_f_RX7_38 rfl rfl dX7_readTilts_6 ?_
    refine g_icmp_gt X 56 dX7_readTilts_9 (by decide) (fun hq => ?_) (fun hq => ?_)
    · have hf := zpos hq hf
      cases hf
      have hc1 := hc1 (by decide)
      exact g_sub [] rfl (zun_n (by decide) (zun_n (by decide) hc1))
    · have hf := zneg hq hf
      refine g_aload_n X 0 dX7_readTilts_12 rfl ?_
      refine g_iload_n X 1 dX7_readTilts_13 rfl ?_
      refine g_iload_n X 2 dX7_readTilts_14 rfl ?_
      obtain ⟨v3, h2, hch2, hf⟩ := zc2_e hf
      refine g_callV X 2 (sX7_isUntold hch2) zf7 hk1 ydX7_isUntold w_ml_RX7_257 w_instanceMethod_X7_isUntold w_sel_X7_isUntold w_ini_RX7 w_code_X7_isUntold (by decide) rfl (st := []) rfl rfl (Nat.le_of_ble_eq_true rfl) dX7_readTilts_15 ?_
      refine g_if_ne X 23 dX7_readTilts_18 (by decide) (fun hq => ?_) (fun hq => ?_)
      · have hf := zneg hq hf
        refine g_iload_n X 2 dX7_readTilts_23 rfl ?_
        refine g_iconst X (v := 1) dX7_readTilts_24 (by decide) ?_
        refine g_aload_n X 0 dX7_readTilts_25 rfl ?_
        refine g_get X zf7 hk1 11 (by decide) w_f_RX7_74 rfl rfl dX7_readTilts_26 ?_
        refine g_ishl X dX7_readTilts_29 ?_
        refine g_ior X dX7_readTilts_30 ?_
        refine g_topi (fun y4 ey4 => ?_)
        have hf := zlet_n ey4 hf
        refine g_istore_n X [(2, .int y4), (0, .ref (base + r0)), (1, .int x1), (3, .int x3_4)] dX7_readTilts_31 (by decide) rfl ?_
        refine g_aload_n X 1 dX7_readTilts_32 rfl ?_
        obtain ⟨h5, hch5, hf⟩ := zbd hf
        refine g_callV X 0 (sX7_step hch5) zf7 hk1 ydX7_step w_ml_RX7_54 w_instanceMethod_X7_step w_sel_X7_step w_ini_RX7 w_code_X7_step (by decide) rfl (st := []) rfl rfl (Nat.le_of_ble_eq_true rfl) dX7_readTilts_33 ?_
        refine g_aload_n X 1 dX7_readTilts_36 rfl ?_
        refine g_get X zf7 hk1 8 (by decide) w_f_RX7_61 rfl rfl dX7_readTilts_37 ?_
        refine g_iconst X (v := 4) dX7_readTilts_40 (by decide) ?_
        refine g_icmp_eq X 46 dX7_readTilts_41 (by decide) (fun hq => ?_) (fun hq => ?_)
        · have hf := zpos hq hf
          refine g_aload_n X 1 dX7_readTilts_46 rfl ?_
          obtain ⟨h6, hch6, hf⟩ := zbd hf
          refine g_callV X 0 (sX7_step hch6) zf7 hk1 ydX7_step w_ml_RX7_54 w_instanceMethod_X7_step w_sel_X7_step w_ini_RX7 w_code_X7_step (by decide) rfl (st := []) rfl rfl (Nat.le_of_ble_eq_true rfl) dX7_readTilts_47 ?_
          obtain ⟨y7, ey7⟩ : ∃ y : Int32, y = x3_4 + (1 : Int32) := ⟨_, rfl⟩
          have hf := zlet_n ey7 hf
          refine g_iinc X (j := 3) [(3, .int y7), (2, .int y4), (0, .ref (base + r0)), (1, .int x1)] dX7_readTilts_50 rfl (by rw [ey7]; rfl) (by decide) rfl ?_
          refine g_goto X 4 dX7_readTilts_53 (by decide) ?_
          cases hf
          exact g_sub [2, 3, 1, 0] rfl (hc0 rfl)
        · have hf := zneg hq hf
          cases hf
          have hc1 := hc1 (by decide)
          exact g_sub [0] rfl (zun_p rfl (zun_n (by decide) hc1))
      · have hf := zpos hq hf
        cases hf
        have hc1 := hc1 (by decide)
        exact g_sub [] rfl (zun_p rfl hc1)
  · obtain ⟨ee, x2_k4, x3_k4, h_k4⟩ := qq
    have hf : kX7_readTilts_4 h ee x2_k4 x3_k4 h_k4 = some (rE, hE) := hf
    unfold kX7_readTilts_4 at hf
    by_cases hee0 : ee = 1
    · have hf := zpos hee0 hf
      refine zifp hee0 ?_
      show zG p l e { frames := 3, cells := 0, slots := 0, locals := 65 } s m args below meth c (MQ below (zQ D cA base h hE (some (.int rE))) args s 0 0 (zA base)) 4 D cA base h 21 [] [] h_k4
      refine g_iconst X (v := -1) dX7_readTilts_21 (by decide) ?_
      obtain ⟨rfl, rfl⟩ := zsm hf
      exact g_iret X hr dX7_readTilts_22
    have hf := zneg hee0 hf
    refine zifn hee0 ?_
    by_cases hee1 : ee = 2
    · have hf := zpos hee1 hf
      refine zifp hee1 ?_
      show zG p l e { frames := 3, cells := 0, slots := 0, locals := 65 } s m args below meth c (MQ below (zQ D cA base h hE (some (.int rE))) args s 0 0 (zA base)) 4 D cA base h 44 [(2, .int x2_k4)] [] h_k4
      refine g_iload_n X 0 dX7_readTilts_44 rfl ?_
      obtain ⟨rfl, rfl⟩ := zsm hf
      exact g_iret X hr dX7_readTilts_45
    have hf := zneg hee1 hf
    refine zifn hee1 ?_
    show zG p l e { frames := 3, cells := 0, slots := 0, locals := 65 } s m args below meth c (MQ below (zQ D cA base h hE (some (.int rE))) args s 0 0 (zA base)) 4 D cA base h 56 [] [] h_k4
    refine g_iconst X (v := -1) dX7_readTilts_56 (by decide) ?_
    obtain ⟨rfl, rfl⟩ := zsm hf
    exact g_iret X hr dX7_readTilts_57

set_option maxHeartbeats 4000000 in
set_option maxRecDepth 100000 in
theorem sX9_clear {l : Launch} {D : va_G} {cA : Nat → ClassId} {base : Nat} {sA : Nat → Nat} {r0 : Nat} {h hE : Zh} (hf : fX9_clear r0 h = some hE) : zC l yX9_clear cX9_clear 1 none 1 20 D cA base sA [.ref (base + r0)] h none hE := by
  refine g_entry RX9 (by decide) rfl (Nat.le_of_ble_eq_true rfl) ?_
  intro p e s m args below meth c X hr
  unfold fX9_clear at hf
  have hf := zlet_n (x := h) rfl hf
  show zG p l e { frames := 1, cells := 0, slots := 0, locals := 20 } s m args below meth c (MQ below (zQ D cA base h hE none) args s 0 0 (zA base)) 1 D cA base h 0 [(0, .ref (base + r0))] [] h
  refine g_aload_n X 0 dX9_clear_0 rfl ?_
  refine g_iconst X (v := 0) dX9_clear_1 (by decide) ?_
  obtain ⟨hk1, hf⟩ := zite hf
  refine g_putZ X zf9 hk1 (Or.inl rfl) 0 (by decide) w_f_RX9_29 rfl rfl rfl dX9_clear_2 ?_
  refine g_hp (fun h2 eh2 => ?_)
  have hf := zlet_n eh2 hf
  refine g_aload_n X 0 dX9_clear_5 rfl ?_
  obtain ⟨r_3, hr_3, hf⟩ := zbd hf
  refine g_get X zf9 hk1 1 (by decide) w_f_RX9_12 rfl (zfv_r hr_3 rfl) dX9_clear_6 ?_
  obtain ⟨hk4, hf⟩ := zite hf
  obtain ⟨h5, hch5, hf⟩ := zbd hf
  refine g_callV X 0 (sX0_clear hch5) zf0 hk4 ydX0_clear w_ml_RX9_33 w_instanceMethod_X0_clear w_sel_X0_clear w_ini_RX0 w_code_X0_clear (by decide) rfl (st := []) rfl rfl (Nat.le_of_ble_eq_true rfl) dX9_clear_9 ?_
  refine g_aload_n X 0 dX9_clear_12 rfl ?_
  refine g_iconst X (v := 0) dX9_clear_13 (by decide) ?_
  refine g_putI X zf9 hk1 3 (by decide) w_f_RX9_36 rfl rfl rfl dX9_clear_14 ?_
  refine g_hp (fun h6 eh6 => ?_)
  have hf := zlet_n eh6 hf
  refine g_aload_n X 0 dX9_clear_17 rfl ?_
  obtain ⟨r_7, hr_7, hf⟩ := zbd hf
  refine g_get X zf9 hk1 4 (by decide) w_f_RX9_25 rfl (zfv_r hr_7 rfl) dX9_clear_18 ?_
  obtain ⟨hk8, hf⟩ := zite hf
  obtain ⟨h9, hch9, hf⟩ := zbd hf
  refine g_callV X 0 (sX1_clear hch9) zf1 hk8 ydX1_clear w_ml_RX9_40 w_instanceMethod_X1_clear w_sel_X1_clear w_ini_RX1 w_code_X1_clear (by decide) rfl (st := []) rfl rfl (Nat.le_of_ble_eq_true rfl) dX9_clear_21 ?_
  cases hf
  exact g_vret X hr dX9_clear_24

set_option maxHeartbeats 4000000 in
set_option maxRecDepth 100000 in
theorem sX10_putBytes {l : Launch} {D : va_G} {cA : Nat → ClassId} {base : Nat} {sA : Nat → Nat} {r0 : Nat} {x1 : Int32} {h hE : Zh} (hf : fX10_putBytes r0 x1 h = some hE) : zC l yX10_putBytes cX10_putBytes 3 none 0 0 D cA base sA [.ref (base + r0), .int x1] h none hE := by
  refine g_entry RX10 (by decide) rfl (Nat.le_of_ble_eq_true rfl) ?_
  intro p e s m args below meth c X hr
  unfold fX10_putBytes at hf
  have hf := zlet_n (x := h) rfl hf
  show zG p l e { frames := 0, cells := 0, slots := 0, locals := 0 } s m args below meth c (MQ below (zQ D cA base h hE none) args s 0 0 (zA base)) 3 D cA base h 0 [(0, .ref (base + r0)), (1, .int x1)] [] h
  refine g_bipush X (v := 24) dX10_putBytes_0 (by decide) ?_
  refine g_istore_n X [(2, .int ((24 : Int32))), (0, .ref (base + r0)), (1, .int x1)] dX10_putBytes_2 (by decide) rfl ?_
  refine g_sub [1, 2, 0] rfl ?_
  obtain ⟨qq, hlp, hf⟩ := zbd hf
  refine lp_snd (body := (fun q : Int32 × Zh => bX10_putBytes_3 h r0 x1 q.1 q.2)) (P := (fun q : Int32 × Zh => zG p l e { frames := 0, cells := 0, slots := 0, locals := 0 } s m args below meth c (MQ below (zQ D cA base h hE none) args s 0 0 (zA base)) 3 D cA base h 3 [(0, .ref (base + r0)), (1, .int x1), (2, .int q.1)] [] q.2)) (E := (fun (en : Nat) (q : Int32 × Zh) => zG p l e { frames := 0, cells := 0, slots := 0, locals := 0 } s m args below meth c (MQ below (zQ D cA base h hE none) args s 0 0 (zA base)) 3 D cA base h 36 [] [] q.2)) ?_ zB ((24 : Int32), h) qq.1 qq.2 hlp ?_
  · intro q e_3 q_3 hf hc0 hc1
    obtain ⟨x2_3, h_3⟩ := q
    have hf : bX10_putBytes_3 h r0 x1 x2_3 h_3 = some (e_3, q_3) := hf
    unfold bX10_putBytes_3 at hf
    show zG p l e { frames := 0, cells := 0, slots := 0, locals := 0 } s m args below meth c (MQ below (zQ D cA base h hE none) args s 0 0 (zA base)) 3 D cA base h 3 [(0, .ref (base + r0)), (1, .int x1), (2, .int x2_3)] [] h_3
    refine g_iload_n X 2 dX10_putBytes_3 rfl ?_
    refine g_if_lt X 36 dX10_putBytes_4 (by decide) (fun hq => ?_) (fun hq => ?_)
    · have hf := zpos hq hf
      cases hf
      have hc1 := hc1 (by decide)
      exact g_sub [] rfl hc1
    · have hf := zneg hq hf
      refine g_aload_n X 0 dX10_putBytes_7 rfl ?_
      obtain ⟨hk1, hf⟩ := zite hf
      obtain ⟨r_2, hr_2, hf⟩ := zbd hf
      refine g_get X zf10 hk1 0 (by decide) w_f_RX10_9 rfl (zfv_r hr_2 rfl) dX10_putBytes_8 ?_
      refine g_aload_n X 0 dX10_putBytes_11 rfl ?_
      refine g_get X zf10 hk1 1 (by decide) w_f_RX10_48 rfl rfl dX10_putBytes_12 ?_
      refine g_iload_n X 1 dX10_putBytes_15 rfl ?_
      refine g_iload_n X 2 dX10_putBytes_16 rfl ?_
      refine g_ishr X dX10_putBytes_17 ?_
      refine g_i2b X dX10_putBytes_18 ?_
      obtain ⟨hk3, hf⟩ := zite hf
      obtain ⟨hi4, hf⟩ := zite hf
      refine g_bast X hk3 hi4 dX10_putBytes_19 ?_
      refine g_hp (fun h5 eh5 => ?_)
      have hf := zlet_n eh5 hf
      refine g_aload_n X 0 dX10_putBytes_20 rfl ?_
      refine g_dup X dX10_putBytes_21 rfl ?_
      refine g_get X zf10 hk1 1 (by decide) w_f_RX10_48 rfl rfl dX10_putBytes_22 ?_
      refine g_iconst X (v := 1) dX10_putBytes_25 (by decide) ?_
      refine g_iadd X dX10_putBytes_26 ?_
      refine g_putI X zf10 hk1 1 (by decide) w_f_RX10_48 rfl rfl rfl dX10_putBytes_27 ?_
      refine g_hp (fun h6 eh6 => ?_)
      have hf := zlet_n eh6 hf
      obtain ⟨y7, ey7⟩ : ∃ y : Int32, y = x2_3 + (-8 : Int32) := ⟨_, rfl⟩
      have hf := zlet_n ey7 hf
      refine g_iinc X (j := 2) [(2, .int y7), (0, .ref (base + r0)), (1, .int x1)] dX10_putBytes_30 rfl (by rw [ey7]; rfl) (by decide) rfl ?_
      refine g_goto X 3 dX10_putBytes_33 (by decide) ?_
      cases hf
      exact g_sub [1, 2, 0] rfl (hc0 rfl)
  · obtain ⟨ee, x2_k3, h_k3⟩ := qq
    have hf : kX10_putBytes_3 h ee x2_k3 h_k3 = some hE := hf
    unfold kX10_putBytes_3 at hf
    show zG p l e { frames := 0, cells := 0, slots := 0, locals := 0 } s m args below meth c (MQ below (zQ D cA base h hE none) args s 0 0 (zA base)) 3 D cA base h 36 [] [] h_k3
    cases hf
    exact g_vret X hr dX10_putBytes_36

set_option maxHeartbeats 4000000 in
set_option maxRecDepth 100000 in
theorem sX10_feed {l : Launch} {D : va_G} {cA : Nat → ClassId} {base : Nat} {sA : Nat → Nat} {r0 : Nat} {x1 : Int32} {x2 : Int32} {x3 : Int32} {x4 : Int32} {x5 : Int32} {h hE : Zh} {rE : Int32} (hf : fX10_feed r0 x1 x2 x3 x4 x5 h = some (rE, hE)) : zC l yX10_feed cX10_feed 6 (some .int) 1 22 D cA base sA [.ref (base + r0), .int x1, .int x2, .int x3, .int x4, .int x5] h (some (.int rE)) hE := by
  refine g_entry RX10 (by decide) rfl (Nat.le_of_ble_eq_true rfl) ?_
  intro p e s m args below meth c X hr
  unfold fX10_feed at hf
  have hf := zlet_n (x := h) rfl hf
  show zG p l e { frames := 1, cells := 0, slots := 0, locals := 22 } s m args below meth c (MQ below (zQ D cA base h hE (some (.int rE))) args s 0 0 (zA base)) 6 D cA base h 0 [(0, .ref (base + r0)), (1, .int x1), (2, .int x2), (3, .int x3), (4, .int x4), (5, .int x5)] [] h
  refine g_aload_n X 0 dX10_feed_0 rfl ?_
  obtain ⟨hk1, hf⟩ := zite hf
  refine g_get X zf10 hk1 1 (by decide) w_f_RX10_48 rfl rfl dX10_feed_1 ?_
  refine g_bipush X (v := 20) dX10_feed_4 (by decide) ?_
  refine g_iadd X dX10_feed_6 ?_
  refine g_sipush X (v := 900) dX10_feed_7 (by decide) ?_
  refine g_icmp_le X 15 dX10_feed_10 (by decide) (fun hq => ?_) (fun hq => ?_)
  · have hf := zpos hq hf
    refine g_aload_n X 0 dX10_feed_15 rfl ?_
    refine g_iload_n X 1 dX10_feed_16 rfl ?_
    obtain ⟨h2, hch2, hf⟩ := zbd hf
    refine g_callV X 1 (sX10_putBytes hch2) zf10 hk1 ydX10_putBytes w_ml_RX10_52 w_instanceMethod_X10_putBytes w_sel_X10_putBytes w_ini_RX10 w_code_X10_putBytes (by decide) rfl (st := []) rfl rfl (Nat.le_of_ble_eq_true rfl) dX10_feed_17 ?_
    refine g_aload_n X 0 dX10_feed_20 rfl ?_
    refine g_iload_n X 2 dX10_feed_21 rfl ?_
    obtain ⟨h3, hch3, hf⟩ := zbd hf
    refine g_callV X 1 (sX10_putBytes hch3) zf10 hk1 ydX10_putBytes w_ml_RX10_52 w_instanceMethod_X10_putBytes w_sel_X10_putBytes w_ini_RX10 w_code_X10_putBytes (by decide) rfl (st := []) rfl rfl (Nat.le_of_ble_eq_true rfl) dX10_feed_22 ?_
    refine g_aload_n X 0 dX10_feed_25 rfl ?_
    refine g_iload_n X 3 dX10_feed_26 rfl ?_
    obtain ⟨h4, hch4, hf⟩ := zbd hf
    refine g_callV X 1 (sX10_putBytes hch4) zf10 hk1 ydX10_putBytes w_ml_RX10_52 w_instanceMethod_X10_putBytes w_sel_X10_putBytes w_ini_RX10 w_code_X10_putBytes (by decide) rfl (st := []) rfl rfl (Nat.le_of_ble_eq_true rfl) dX10_feed_27 ?_
    refine g_aload_n X 0 dX10_feed_30 rfl ?_
    refine g_iload X 4 dX10_feed_31 rfl ?_
    obtain ⟨h5, hch5, hf⟩ := zbd hf
    refine g_callV X 1 (sX10_putBytes hch5) zf10 hk1 ydX10_putBytes w_ml_RX10_52 w_instanceMethod_X10_putBytes w_sel_X10_putBytes w_ini_RX10 w_code_X10_putBytes (by decide) rfl (st := []) rfl rfl (Nat.le_of_ble_eq_true rfl) dX10_feed_33 ?_
    refine g_aload_n X 0 dX10_feed_36 rfl ?_
    refine g_iload X 5 dX10_feed_37 rfl ?_
    obtain ⟨h6, hch6, hf⟩ := zbd hf
    refine g_callV X 1 (sX10_putBytes hch6) zf10 hk1 ydX10_putBytes w_ml_RX10_52 w_instanceMethod_X10_putBytes w_sel_X10_putBytes w_ini_RX10 w_code_X10_putBytes (by decide) rfl (st := []) rfl rfl (Nat.le_of_ble_eq_true rfl) dX10_feed_39 ?_
    refine g_aload_n X 0 dX10_feed_42 rfl ?_
    refine g_get X zf10 hk1 1 (by decide) w_f_RX10_48 rfl rfl dX10_feed_43 ?_
    obtain ⟨rfl, rfl⟩ := zsm hf
    exact g_iret X hr dX10_feed_46
  · have hf := zneg hq hf
    refine g_iconst X (v := -1) dX10_feed_13 (by decide) ?_
    obtain ⟨rfl, rfl⟩ := zsm hf
    exact g_iret X hr dX10_feed_14

set_option maxHeartbeats 4000000 in
set_option maxRecDepth 100000 in
theorem sX10_fault {l : Launch} {D : va_G} {cA : Nat → ClassId} {base : Nat} {sA : Nat → Nat} {r0 : Nat} {h hE : Zh} {rE : Int32} (hf : fX10_fault r0 h = some (rE, hE)) : zC l yX10_fault cX10_fault 1 (some .int) 0 0 D cA base sA [.ref (base + r0)] h (some (.int rE)) hE := by
  refine g_entry RX10 (by decide) rfl (Nat.le_of_ble_eq_true rfl) ?_
  intro p e s m args below meth c X hr
  unfold fX10_fault at hf
  have hf := zlet_n (x := h) rfl hf
  show zG p l e { frames := 0, cells := 0, slots := 0, locals := 0 } s m args below meth c (MQ below (zQ D cA base h hE (some (.int rE))) args s 0 0 (zA base)) 1 D cA base h 0 [(0, .ref (base + r0))] [] h
  refine g_aload_n X 0 dX10_fault_0 rfl ?_
  obtain ⟨hk1, hf⟩ := zite hf
  refine g_get X zf10 hk1 9 (by decide) w_f_RX10_67 rfl rfl dX10_fault_1 ?_
  obtain ⟨rfl, rfl⟩ := zsm hf
  exact g_iret X hr dX10_fault_4

set_option maxHeartbeats 4000000 in
set_option maxRecDepth 100000 in
theorem sX10_where {l : Launch} {D : va_G} {cA : Nat → ClassId} {base : Nat} {sA : Nat → Nat} {r0 : Nat} {h hE : Zh} {rE : Int32} (hf : fX10_where r0 h = some (rE, hE)) : zC l yX10_where cX10_where 1 (some .int) 0 0 D cA base sA [.ref (base + r0)] h (some (.int rE)) hE := by
  refine g_entry RX10 (by decide) rfl (Nat.le_of_ble_eq_true rfl) ?_
  intro p e s m args below meth c X hr
  unfold fX10_where at hf
  have hf := zlet_n (x := h) rfl hf
  show zG p l e { frames := 0, cells := 0, slots := 0, locals := 0 } s m args below meth c (MQ below (zQ D cA base h hE (some (.int rE))) args s 0 0 (zA base)) 1 D cA base h 0 [(0, .ref (base + r0))] [] h
  refine g_aload_n X 0 dX10_where_0 rfl ?_
  obtain ⟨hk1, hf⟩ := zite hf
  refine g_get X zf10 hk1 8 (by decide) w_f_RX10_87 rfl rfl dX10_where_1 ?_
  refine g_iconst X (v := 4) dX10_where_4 (by decide) ?_
  refine g_icmp_ne X 15 dX10_where_5 (by decide) (fun hq => ?_) (fun hq => ?_)
  · have hf := zneg hq hf
    refine g_iconst X (v := -1) dX10_where_15 (by decide) ?_
    obtain ⟨rfl, rfl⟩ := zsm hf
    exact g_iret X hr dX10_where_16
  · have hf := zpos hq hf
    refine g_aload_n X 0 dX10_where_8 rfl ?_
    refine g_get X zf10 hk1 10 (by decide) w_f_RX10_73 rfl rfl dX10_where_9 ?_
    refine g_goto X 16 dX10_where_12 (by decide) ?_
    obtain ⟨rfl, rfl⟩ := zsm hf
    exact g_iret X hr dX10_where_16

set_option maxHeartbeats 4000000 in
set_option maxRecDepth 100000 in
theorem sX10_refuse {l : Launch} {D : va_G} {cA : Nat → ClassId} {base : Nat} {sA : Nat → Nat} {r0 : Nat} {x1 : Int32} {h hE : Zh} {rE : Int32} (hf : fX10_refuse r0 x1 h = some (rE, hE)) : zC l yX10_refuse cX10_refuse 2 (some .int) 0 0 D cA base sA [.ref (base + r0), .int x1] h (some (.int rE)) hE := by
  refine g_entry RX10 (by decide) rfl (Nat.le_of_ble_eq_true rfl) ?_
  intro p e s m args below meth c X hr
  unfold fX10_refuse at hf
  have hf := zlet_n (x := h) rfl hf
  show zG p l e { frames := 0, cells := 0, slots := 0, locals := 0 } s m args below meth c (MQ below (zQ D cA base h hE (some (.int rE))) args s 0 0 (zA base)) 2 D cA base h 0 [(0, .ref (base + r0)), (1, .int x1)] [] h
  refine g_aload_n X 0 dX10_refuse_0 rfl ?_
  refine g_iload_n X 1 dX10_refuse_1 rfl ?_
  obtain ⟨hk1, hf⟩ := zite hf
  refine g_putI X zf10 hk1 8 (by decide) w_f_RX10_87 rfl rfl rfl dX10_refuse_2 ?_
  refine g_hp (fun h2 eh2 => ?_)
  have hf := zlet_n eh2 hf
  refine g_iconst X (v := -1) dX10_refuse_5 (by decide) ?_
  obtain ⟨rfl, rfl⟩ := zsm hf
  exact g_iret X hr dX10_refuse_6

set_option maxHeartbeats 4000000 in
set_option maxRecDepth 100000 in
theorem sX10_answer {l : Launch} {D : va_G} {cA : Nat → ClassId} {base : Nat} {sA : Nat → Nat} {r0 : Nat} {x1 : Int32} {h hE : Zh} {rE : Int32} (hf : fX10_answer r0 x1 h = some (rE, hE)) : zC l yX10_answer cX10_answer 2 (some .int) 0 0 D cA base sA [.ref (base + r0), .int x1] h (some (.int rE)) hE := by
  refine g_entry RX10 (by decide) rfl (Nat.le_of_ble_eq_true rfl) ?_
  intro p e s m args below meth c X hr
  unfold fX10_answer at hf
  have hf := zlet_n (x := h) rfl hf
  show zG p l e { frames := 0, cells := 0, slots := 0, locals := 0 } s m args below meth c (MQ below (zQ D cA base h hE (some (.int rE))) args s 0 0 (zA base)) 2 D cA base h 0 [(0, .ref (base + r0)), (1, .int x1)] [] h
  refine g_aload_n X 0 dX10_answer_0 rfl ?_
  refine g_iconst X (v := 0) dX10_answer_1 (by decide) ?_
  obtain ⟨hk1, hf⟩ := zite hf
  refine g_putI X zf10 hk1 8 (by decide) w_f_RX10_87 rfl rfl rfl dX10_answer_2 ?_
  refine g_hp (fun h2 eh2 => ?_)
  have hf := zlet_n eh2 hf
  refine g_iload_n X 1 dX10_answer_5 rfl ?_
  obtain ⟨rfl, rfl⟩ := zsm hf
  exact g_iret X hr dX10_answer_6

set_option maxHeartbeats 4000000 in
set_option maxRecDepth 100000 in
theorem sX10_hands {l : Launch} {D : va_G} {cA : Nat → ClassId} {base : Nat} {sA : Nat → Nat} {r0 : Nat} {h hE : Zh} {rE : Int32} (hf : fX10_hands r0 h = some (rE, hE)) : zC l yX10_hands cX10_hands 1 (some .int) 1 21 D cA base sA [.ref (base + r0)] h (some (.int rE)) hE := by
  refine g_entry RX10 (by decide) rfl (Nat.le_of_ble_eq_true rfl) ?_
  intro p e s m args below meth c X hr
  unfold fX10_hands at hf
  have hf := zlet_n (x := h) rfl hf
  show zG p l e { frames := 1, cells := 0, slots := 0, locals := 21 } s m args below meth c (MQ below (zQ D cA base h hE (some (.int rE))) args s 0 0 (zA base)) 1 D cA base h 0 [(0, .ref (base + r0))] [] h
  refine g_aload_n X 0 dX10_hands_0 rfl ?_
  obtain ⟨hk1, hf⟩ := zite hf
  obtain ⟨r_2, hr_2, hf⟩ := zbd hf
  refine g_get X zf10 hk1 3 (by decide) w_f_RX10_23 rfl (zfv_r hr_2 rfl) dX10_hands_1 ?_
  obtain ⟨hk3, hf⟩ := zite hf
  refine g_get X zf9 hk3 0 (by decide) w_f_RX10_90 rfl rfl dX10_hands_4 ?_
  refine g_if_ne X 16 dX10_hands_7 (by decide) (fun hq => ?_) (fun hq => ?_)
  · have hf := zneg hq hf
    refine g_aload_n X 0 dX10_hands_16 rfl ?_
    refine g_aload_n X 0 dX10_hands_17 rfl ?_
    obtain ⟨r_4, hr_4, hf⟩ := zbd hf
    refine g_get X zf10 hk1 3 (by decide) w_f_RX10_23 rfl (zfv_r hr_4 rfl) dX10_hands_18 ?_
    obtain ⟨hk5, hf⟩ := zite hf
    obtain ⟨r_6, hr_6, hf⟩ := zbd hf
    refine g_get X zf9 hk5 1 (by decide) w_f_RX10_94 rfl (zfv_r hr_6 rfl) dX10_hands_21 ?_
    obtain ⟨hk7, hf⟩ := zite hf
    refine g_get X zf0 hk7 9 (by decide) w_f_RX10_98 rfl rfl dX10_hands_24 ?_
    obtain ⟨v9, h8, hch8, hf⟩ := zc2_e hf
    refine g_callV X 1 (sX10_answer hch8) zf10 hk1 ydX10_answer w_ml_RX10_84 w_instanceMethod_X10_answer w_sel_X10_answer w_ini_RX10 w_code_X10_answer (by decide) rfl (st := []) rfl rfl (Nat.le_of_ble_eq_true rfl) dX10_hands_27 ?_
    obtain ⟨rfl, rfl⟩ := zsm hf
    exact g_iret X hr dX10_hands_30
  · have hf := zpos hq hf
    refine g_aload_n X 0 dX10_hands_10 rfl ?_
    refine g_iconst X (v := 1) dX10_hands_11 (by decide) ?_
    obtain ⟨v11, h10, hch10, hf⟩ := zc2_e hf
    refine g_callV X 1 (sX10_refuse hch10) zf10 hk1 ydX10_refuse w_ml_RX10_56 w_instanceMethod_X10_refuse w_sel_X10_refuse w_ini_RX10 w_code_X10_refuse (by decide) rfl (st := []) rfl rfl (Nat.le_of_ble_eq_true rfl) dX10_hands_12 ?_
    obtain ⟨rfl, rfl⟩ := zsm hf
    exact g_iret X hr dX10_hands_15

set_option maxHeartbeats 4000000 in
set_option maxRecDepth 100000 in
theorem sX10_rows {l : Launch} {D : va_G} {cA : Nat → ClassId} {base : Nat} {sA : Nat → Nat} {r0 : Nat} {h hE : Zh} {rE : Int32} (hf : fX10_rows r0 h = some (rE, hE)) : zC l yX10_rows cX10_rows 1 (some .int) 1 21 D cA base sA [.ref (base + r0)] h (some (.int rE)) hE := by
  refine g_entry RX10 (by decide) rfl (Nat.le_of_ble_eq_true rfl) ?_
  intro p e s m args below meth c X hr
  unfold fX10_rows at hf
  have hf := zlet_n (x := h) rfl hf
  show zG p l e { frames := 1, cells := 0, slots := 0, locals := 21 } s m args below meth c (MQ below (zQ D cA base h hE (some (.int rE))) args s 0 0 (zA base)) 1 D cA base h 0 [(0, .ref (base + r0))] [] h
  refine g_aload_n X 0 dX10_rows_0 rfl ?_
  obtain ⟨hk1, hf⟩ := zite hf
  obtain ⟨r_2, hr_2, hf⟩ := zbd hf
  refine g_get X zf10 hk1 3 (by decide) w_f_RX10_23 rfl (zfv_r hr_2 rfl) dX10_rows_1 ?_
  obtain ⟨hk3, hf⟩ := zite hf
  refine g_get X zf9 hk3 0 (by decide) w_f_RX10_90 rfl rfl dX10_rows_4 ?_
  refine g_if_ne X 16 dX10_rows_7 (by decide) (fun hq => ?_) (fun hq => ?_)
  · have hf := zneg hq hf
    refine g_aload_n X 0 dX10_rows_16 rfl ?_
    refine g_aload_n X 0 dX10_rows_17 rfl ?_
    obtain ⟨r_4, hr_4, hf⟩ := zbd hf
    refine g_get X zf10 hk1 3 (by decide) w_f_RX10_23 rfl (zfv_r hr_4 rfl) dX10_rows_18 ?_
    obtain ⟨hk5, hf⟩ := zite hf
    obtain ⟨r_6, hr_6, hf⟩ := zbd hf
    refine g_get X zf9 hk5 1 (by decide) w_f_RX10_94 rfl (zfv_r hr_6 rfl) dX10_rows_21 ?_
    obtain ⟨hk7, hf⟩ := zite hf
    refine g_get X zf0 hk7 10 (by decide) w_f_RX10_103 rfl rfl dX10_rows_24 ?_
    obtain ⟨v9, h8, hch8, hf⟩ := zc2_e hf
    refine g_callV X 1 (sX10_answer hch8) zf10 hk1 ydX10_answer w_ml_RX10_84 w_instanceMethod_X10_answer w_sel_X10_answer w_ini_RX10 w_code_X10_answer (by decide) rfl (st := []) rfl rfl (Nat.le_of_ble_eq_true rfl) dX10_rows_27 ?_
    obtain ⟨rfl, rfl⟩ := zsm hf
    exact g_iret X hr dX10_rows_30
  · have hf := zpos hq hf
    refine g_aload_n X 0 dX10_rows_10 rfl ?_
    refine g_iconst X (v := 1) dX10_rows_11 (by decide) ?_
    obtain ⟨v11, h10, hch10, hf⟩ := zc2_e hf
    refine g_callV X 1 (sX10_refuse hch10) zf10 hk1 ydX10_refuse w_ml_RX10_56 w_instanceMethod_X10_refuse w_sel_X10_refuse w_ini_RX10 w_code_X10_refuse (by decide) rfl (st := []) rfl rfl (Nat.le_of_ble_eq_true rfl) dX10_rows_12 ?_
    obtain ⟨rfl, rfl⟩ := zsm hf
    exact g_iret X hr dX10_rows_15

set_option maxHeartbeats 4000000 in
set_option maxRecDepth 100000 in
theorem sX10_noHand {l : Launch} {D : va_G} {cA : Nat → ClassId} {base : Nat} {sA : Nat → Nat} {r0 : Nat} {x1 : Int32} {h hE : Zh} {rE : Int32} (hf : fX10_noHand r0 x1 h = some (rE, hE)) : zC l yX10_noHand cX10_noHand 2 (some .boolean) 0 0 D cA base sA [.ref (base + r0), .int x1] h (some (.int rE)) hE := by
  refine g_entry RX10 (by decide) rfl (Nat.le_of_ble_eq_true rfl) ?_
  intro p e s m args below meth c X hr
  unfold fX10_noHand at hf
  have hf := zlet_n (x := h) rfl hf
  show zG p l e { frames := 0, cells := 0, slots := 0, locals := 0 } s m args below meth c (MQ below (zQ D cA base h hE (some (.int rE))) args s 0 0 (zA base)) 2 D cA base h 0 [(0, .ref (base + r0)), (1, .int x1)] [] h
  refine g_iload_n X 1 dX10_noHand_0 rfl ?_
  refine g_if_lt X 18 dX10_noHand_1 (by decide) (fun hq => ?_) (fun hq => ?_)
  · have hf := zpos hq hf
    refine g_iconst X (v := 1) dX10_noHand_18 (by decide) ?_
    refine g_goto X 23 dX10_noHand_19 (by decide) ?_
    obtain ⟨rfl, rfl⟩ := zsm hf
    exact g_zret X (Or.inr rfl) hr dX10_noHand_23
  · have hf := zneg hq hf
    refine g_iload_n X 1 dX10_noHand_4 rfl ?_
    refine g_aload_n X 0 dX10_noHand_5 rfl ?_
    obtain ⟨hk1, hf⟩ := zite hf
    obtain ⟨r_2, hr_2, hf⟩ := zbd hf
    refine g_get X zf10 hk1 3 (by decide) w_f_RX10_23 rfl (zfv_r hr_2 rfl) dX10_noHand_6 ?_
    obtain ⟨hk3, hf⟩ := zite hf
    obtain ⟨r_4, hr_4, hf⟩ := zbd hf
    refine g_get X zf9 hk3 1 (by decide) w_f_RX10_94 rfl (zfv_r hr_4 rfl) dX10_noHand_9 ?_
    obtain ⟨hk5, hf⟩ := zite hf
    refine g_get X zf0 hk5 9 (by decide) w_f_RX10_98 rfl rfl dX10_noHand_12 ?_
    refine g_icmp_lt X 22 dX10_noHand_15 (by decide) (fun hq => ?_) (fun hq => ?_)
    · have hf := zpos hq hf
      refine g_iconst X (v := 0) dX10_noHand_22 (by decide) ?_
      obtain ⟨rfl, rfl⟩ := zsm hf
      exact g_zret X (Or.inl rfl) hr dX10_noHand_23
    · have hf := zneg hq hf
      refine g_iconst X (v := 1) dX10_noHand_18 (by decide) ?_
      refine g_goto X 23 dX10_noHand_19 (by decide) ?_
      obtain ⟨rfl, rfl⟩ := zsm hf
      exact g_zret X (Or.inr rfl) hr dX10_noHand_23

