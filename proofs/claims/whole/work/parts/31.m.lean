/-! FifthCard Diary become -/
def fX1_become (r0 : Nat) (r1 : Nat) (h : Zh) : Option Zh := zlet h fun g =>
  if zK g r1 = 1 then (zR h r1 0).bind fun r_2 => if zK g r0 = 1 then (zR h r0 0).bind fun r_4 => if zK g r_2 = 100 then if zK g r_4 = 100 then if 0 ≤ ((0 : Int32)).toInt ∧ 0 ≤ ((0 : Int32)).toInt ∧ 0 ≤ ((20 : Int32)).toInt ∧ ((0 : Int32)).toInt + ((20 : Int32)).toInt ≤ zL g r_2 ∧ ((0 : Int32)).toInt + ((20 : Int32)).toInt ≤ zL g r_4 then zlet (zaI h r_4 (va_cpy (zI h r_2) (zI h r_4) ((0 : Int32)).toNatClampNeg ((0 : Int32)).toNatClampNeg ((20 : Int32)).toNatClampNeg)) fun h8 => (zR h8 r1 1).bind fun r_9 => (zR h8 r0 1).bind fun r_10 => if zK g r_9 = 100 then if zK g r_10 = 100 then if 0 ≤ ((0 : Int32)).toInt ∧ 0 ≤ ((0 : Int32)).toInt ∧ 0 ≤ ((20 : Int32)).toInt ∧ ((0 : Int32)).toInt + ((20 : Int32)).toInt ≤ zL g r_9 ∧ ((0 : Int32)).toInt + ((20 : Int32)).toInt ≤ zL g r_10 then zlet (zaI h8 r_10 (va_cpy (zI h8 r_9) (zI h8 r_10) ((0 : Int32)).toNatClampNeg ((0 : Int32)).toNatClampNeg ((20 : Int32)).toNatClampNeg)) fun h14 => zlet (zsI h14 r0 2 (zI h14 r1 2)) fun h15 => zlet (zsI h15 r0 3 (zI h15 r1 3)) fun h16 => some h16 else none else none else none else none else none else none else none else none
/-! FifthCard Reader is -/
def bX7_is_28 (g : Zh) (r0 : Nat) (s1 : Nat) (x2 : Int32) (h : Zh) : Option (Nat × Int32 × Zh) :=
  zc2 (fJ0_length_8abf5 s1 h) fun v5 h4 => if v5 ≤ x2 then some (2, (x2, h4)) else (zR h4 r0 2).bind fun r_6 => if zK g r_6 = 101 then if zin ((zI h4 r0 9) + x2) (zL g r_6) then zc2 (fJ0_charAt_5068e s1 x2 h4) fun v10 h9 => if (zI h4 r_6 ((zI h4 r0 9) + x2).toNatClampNeg) = v10 then zlet (x2 + (1 : Int32)) fun y11 => some (0, (y11, h9)) else some (1, (x2, h9)) else none else none
def kX7_is_28 (g : Zh)  (e : Nat) (x2 : Int32) (h : Zh) : Option (Int32 × Zh) :=
  if e = 1 then some ((0 : Int32), h) else some ((1 : Int32), h)
def fX7_is (r0 : Nat) (s1 : Nat) (h : Zh) : Option (Int32 × Zh) := zlet h fun g =>
  if zK g r0 = 7 then if (zI h r0 8) = ((1 : Int32)) then zc2 (fJ0_length_8abf5 s1 h) fun v3 h2 => if ((zI h r0 10) - (zI h r0 9)) = v3 then (lp (fun q : Int32 × Zh => bX7_is_28 g r0 s1 q.1 q.2) zB ((0 : Int32), h2)).bind fun q => kX7_is_28 g q.1 q.2.1 q.2.2 else some ((0 : Int32), h2) else some ((0 : Int32), h) else none
/-! FifthCard Reader passWhole -/
def fX7_passWhole (r0 : Nat) (s1 : Nat) (x2 : Int32) (x3 : Int32) (h : Zh) : Option (Int32 × Zh) := zlet h fun g =>
  if zK g r0 = 7 then zc2 (fX7_is r0 s1 h) fun v3 h2 => if v3 = 0 then zc2 (fX7_fail r0 ((1 : Int32)) h2) fun v10 h9 => some ((-1 : Int32), h9) else (fX7_step r0 h2).bind fun h4 => zc2 (fX7_isWhole r0 x2 x3 h4) fun v6 h5 => if v6 = 0 then some ((-1 : Int32), h5) else zlet (zI h5 r0 11) fun y7 => (fX7_step r0 h5).bind fun h8 => some (y7, h8) else none
/-! FifthCard Reader pass -/
def fX7_pass (r0 : Nat) (s1 : Nat) (h : Zh) : Option (Int32 × Zh) := zlet h fun g =>
  if zK g r0 = 7 then zc2 (fX7_is r0 s1 h) fun v3 h2 => if v3 = 0 then zc2 (fX7_fail r0 ((1 : Int32)) h2) fun v6 h5 => if v6 = 0 ∨ v6 = 1 then some (v6, h5) else none else (fX7_step r0 h2).bind fun h4 => some ((1 : Int32), h4) else none
/-! FifthCard Reader readSuits -/
def fX7_readSuits (r0 : Nat) (r1 : Nat) (h : Zh) : Option (Int32 × Zh) := zlet h fun g =>
  if zK g r0 = 7 then zc2 (fX7_pass r0 2 h) fun v3 h2 => if v3 = 0 then some ((0 : Int32), h2) else zc2 (fX7_isWhole r0 ((1 : Int32)) ((4 : Int32)) h2) fun v5 h4 => if v5 = 0 then some ((0 : Int32), h4) else if (zI h4 r0 11) < ((1 : Int32)) then zc2 (fX7_fail r0 ((4 : Int32)) h4) fun v7 h6 => if v7 = 0 ∨ v7 = 1 then some (v7, h6) else none else if zK g r1 = 0 then if ¬ (zI h4 r0 11) = 0 then if (zrem (zI h4 r1 0) (zI h4 r0 11)) = 0 then zlet (zsI h4 r1 1 (zI h4 r0 11)) fun h11 => (fX7_step r0 h11).bind fun h12 => some ((1 : Int32), h12) else zc2 (fX7_fail r0 ((4 : Int32)) h4) fun v14 h13 => if v14 = 0 ∨ v14 = 1 then some (v14, h13) else none else none else none else none
/-! FifthCard Reader readWay -/
def jX7_readWay_94 (g : Zh) (r0 : Nat) (r1 : Nat) (h : Zh) : Option (Int32 × Zh) :=
  zc2 (fX7_is r0 8 h) fun v14 h13 => if v14 = 0 ∨ v14 = 1 then zlet (zsI h13 r1 8 v14) fun h15 => if (zI h15 r1 8) = 0 then some ((1 : Int32), h15) else (fX7_step r0 h15).bind fun h17 => some ((1 : Int32), h17) else none
def jX7_readWay_80 (g : Zh) (r0 : Nat) (r1 : Nat) (t0 : Int32) (t1 : Nat) (h : Zh) : Option (Int32 × Zh) :=
  if zK g t1 = 0 then if t0 = 0 ∨ t0 = 1 then zlet (zsI h t1 7 t0) fun h11 => if (zI h11 r1 7) = 0 then jX7_readWay_94 g r0 r1 h11 else (fX7_step r0 h11).bind fun h18 => jX7_readWay_94 g r0 r1 h18 else none else none
def jX7_readWay_79 (g : Zh) (r0 : Nat) (r1 : Nat) (t0 : Nat) (h : Zh) : Option (Int32 × Zh) :=
  jX7_readWay_80 g r0 r1 ((0 : Int32)) t0 h
def jX7_readWay_32 (g : Zh) (r0 : Nat) (r1 : Nat) (h : Zh) : Option (Int32 × Zh) :=
  zc2 (fX0_handsOf r1 (zI h r1 0) h) fun v8 h7 => if (lg_cmp v8 ((2000 : Int64))) ≤ 0 then (fX7_step r0 h7).bind fun h9 => if (zI h9 r1 6) = 0 then zc2 (fX7_is r0 7 h9) fun v20 h19 => if v20 = 0 then jX7_readWay_79 g r0 r1 r1 h19 else jX7_readWay_80 g r0 r1 ((1 : Int32)) r1 h19 else jX7_readWay_79 g r0 r1 r1 h9 else zc2 (fX7_fail r0 ((7 : Int32)) h7) fun v22 h21 => if v22 = 0 ∨ v22 = 1 then some (v22, h21) else none
def fX7_readWay (r0 : Nat) (r1 : Nat) (h : Zh) : Option (Int32 × Zh) := zlet h fun g =>
  if zK g r0 = 7 then zc2 (fX7_is r0 5 h) fun v3 h2 => if zK g r1 = 0 then if v3 = 0 ∨ v3 = 1 then zlet (zsI h2 r1 6 v3) fun h5 => if (zI h5 r1 6) = 0 then zc2 (fX7_is r0 6 h5) fun v25 h24 => if v25 = 0 then zc2 (fX7_fail r0 ((1 : Int32)) h24) fun v27 h26 => if v27 = 0 ∨ v27 = 1 then some (v27, h26) else none else jX7_readWay_32 g r0 r1 h24 else jX7_readWay_32 g r0 r1 h5 else none else none else none
/-! FifthCard Reader readTrick -/
def fX7_readTrick (r0 : Nat) (h : Zh) : Option (Int32 × Zh) := zlet h fun g =>
  if zK g r0 = 7 then (zR h r0 4).bind fun r_2 => if zK g r_2 = 9 then if (zI h r_2 0) = 0 then (fX7_step r0 h).bind fun h4 => (zR h4 r0 4).bind fun r_5 => if zK g r_5 = 9 then (zR h4 r_5 1).bind fun r_7 => zc2 (fX7_passWhole r0 1 ((4 : Int32)) ((12 : Int32)) h4) fun v9 h8 => if zK g r_7 = 0 then zlet (zsI h8 r_7 0 v9) fun h11 => if (zI h11 r_7 0) < 0 then some ((0 : Int32), h11) else zc2 (fX7_readSuits r0 r_7 h11) fun v13 h12 => if v13 = 0 then some ((0 : Int32), h12) else zc2 (fX7_passWhole r0 3 ((2 : Int32)) (if (zI h12 r_7 0) < ((5 : Int32)) then (zI h12 r_7 0) else ((5 : Int32))) h12) fun v15 h14 => zlet (zsI h14 r_7 3 v15) fun h16 => if 0 ≤ (zI h16 r_7 3) then zc2 (fX7_passWhole r0 4 ((1 : Int32)) (if ((zI h16 r_7 3) - ((1 : Int32))) < ((2 : Int32)) then ((zI h16 r_7 3) - ((1 : Int32))) else ((2 : Int32))) h16) fun v18 h17 => zlet (zsI h17 r_7 4 v18) fun h19 => if (zI h19 r_7 4) < 0 then some ((0 : Int32), h19) else zc2 (fX7_readWay r0 r_7 h19) fun v21 h20 => if v21 = 0 then some ((0 : Int32), h20) else (fX0_settle r_7 h20).bind fun h22 => (zR h22 r0 4).bind fun r_23 => if zK g r_23 = 9 then zlet (zsI h22 r_23 0 ((1 : Int32))) fun h25 => some ((1 : Int32), h25) else none else some ((0 : Int32), h16) else none else none else zc2 (fX7_fail r0 ((3 : Int32)) h) fun v27 h26 => if v27 = 0 ∨ v27 = 1 then some (v27, h26) else none else none else none
/-! FifthCard Reader readName -/
def bX7_readName_61 (g : Zh) (r0 : Nat) (x1 : Int32) (h : Zh) : Option (Nat × Int32 × Zh) :=
  (zR h r0 4).bind fun r_27 => if zK g r_27 = 9 then if (zI h r_27 3) ≤ x1 then some (2, (x1, h)) else zc2 (fX7_isNameOf r0 x1 h) fun v30 h29 => if v30 = 0 then zlet (x1 + (1 : Int32)) fun y31 => some (0, (y31, h29)) else some (1, (x1, h29)) else none
def kX7_readName_61 (g : Zh) (r0 : Nat) (e : Nat) (x1 : Int32) (h : Zh) : Option (Int32 × Zh) :=
  if e = 1 then zc2 (fX7_fail r0 ((3 : Int32)) h) fun v33 h32 => if v33 = 0 ∨ v33 = 1 then some (v33, h32) else none else (zR h r0 5).bind fun r_35 => (zR h r0 4).bind fun r_36 => if zK g r_36 = 9 then if zK g r_35 = 100 then if zin (zI h r_36 3) (zL g r_35) then zlet (zsI h r_35 (zI h r_36 3).toNatClampNeg (zI h r0 9)) fun h40 => (zR h40 r0 6).bind fun r_41 => (zR h40 r0 4).bind fun r_42 => if zK g r_42 = 9 then if zK g r_41 = 100 then if zin (zI h40 r_42 3) (zL g r_41) then zlet (zsI h40 r_41 (zI h40 r_42 3).toNatClampNeg ((zI h40 r0 10) - (zI h40 r0 9))) fun h46 => (fX7_step r0 h46).bind fun h47 => some ((1 : Int32), h47) else none else none else none else none else none else none
def fX7_readName (r0 : Nat) (h : Zh) : Option (Int32 × Zh) := zlet h fun g =>
  if zK g r0 = 7 then if (zI h r0 8) = ((1 : Int32)) then zc2 (fX7_is r0 0 h) fun v6 h5 => if v6 = 0 then zc2 (fX7_is r0 9 h5) fun v11 h10 => if v11 = 0 then zc2 (fX7_is r0 10 h10) fun v16 h15 => if v16 = 0 then zc2 (fX7_is r0 11 h15) fun v21 h20 => if v21 = 0 then zc2 (fX7_is r0 12 h20) fun v26 h25 => if v26 = 0 then (lp (fun q : Int32 × Zh => bX7_readName_61 g r0 q.1 q.2) zB ((0 : Int32), h25)).bind fun q => kX7_readName_61 g r0 q.1 q.2.1 q.2.2 else zc2 (fX7_fail r0 ((1 : Int32)) h25) fun v49 h48 => if v49 = 0 ∨ v49 = 1 then some (v49, h48) else none else zc2 (fX7_fail r0 ((1 : Int32)) h20) fun v23 h22 => if v23 = 0 ∨ v23 = 1 then some (v23, h22) else none else zc2 (fX7_fail r0 ((1 : Int32)) h15) fun v18 h17 => if v18 = 0 ∨ v18 = 1 then some (v18, h17) else none else zc2 (fX7_fail r0 ((1 : Int32)) h10) fun v13 h12 => if v13 = 0 ∨ v13 = 1 then some (v13, h12) else none else zc2 (fX7_fail r0 ((1 : Int32)) h5) fun v8 h7 => if v8 = 0 ∨ v8 = 1 then some (v8, h7) else none else zc2 (fX7_fail r0 ((1 : Int32)) h) fun v3 h2 => if v3 = 0 ∨ v3 = 1 then some (v3, h2) else none else none
/-! FifthCard Reader keepWord -/
def fX7_keepWord (r0 : Nat) (h : Zh) : Option (Int32 × Zh) := zlet h fun g =>
  if zK g r0 = 7 then zc2 (fX7_is r0 16 h) fun v3 h2 => if v3 = 0 then zc2 (fX7_is r0 17 h2) fun v5 h4 => if v5 = 0 then zc2 (fX7_is r0 18 h4) fun v7 h6 => if v7 = 0 then zc2 (fX7_is r0 19 h6) fun v9 h8 => if v9 = 0 then some ((-1 : Int32), h8) else some ((3 : Int32), h8) else some ((2 : Int32), h6) else some ((1 : Int32), h4) else some ((0 : Int32), h2) else none
/-! FifthCard Reader tellWord -/
def fX7_tellWord (r0 : Nat) (h : Zh) : Option (Int32 × Zh) := zlet h fun g =>
  if zK g r0 = 7 then zc2 (fX7_is r0 21 h) fun v3 h2 => if v3 = 0 then zc2 (fX7_is r0 22 h2) fun v5 h4 => if v5 = 0 then zc2 (fX7_is r0 23 h4) fun v7 h6 => if v7 = 0 then zc2 (fX7_is r0 24 h6) fun v9 h8 => if v9 = 0 then zc2 (fX7_is r0 19 h8) fun v11 h10 => if v11 = 0 then some ((-1 : Int32), h10) else some ((4 : Int32), h10) else some ((3 : Int32), h8) else some ((2 : Int32), h6) else some ((1 : Int32), h4) else some ((0 : Int32), h2) else none
theorem dX1_become_0 : decode cX1_become 0 = .ok (.aload_n 1, 1) := by decide +kernel
theorem dX1_become_1 : decode cX1_become 1 = .ok (.getfield 9, 3) := by decide +kernel
theorem dX1_become_4 : decode cX1_become 4 = .ok (.iconst 0, 1) := by decide +kernel
theorem dX1_become_5 : decode cX1_become 5 = .ok (.aload_n 0, 1) := by decide +kernel
theorem dX1_become_6 : decode cX1_become 6 = .ok (.getfield 9, 3) := by decide +kernel
theorem dX1_become_9 : decode cX1_become 9 = .ok (.iconst 0, 1) := by decide +kernel
theorem dX1_become_10 : decode cX1_become 10 = .ok (.bipush 20, 2) := by decide +kernel
theorem dX1_become_12 : decode cX1_become 12 = .ok (.invokestatic 25, 3) := by decide +kernel
theorem dX1_become_15 : decode cX1_become 15 = .ok (.aload_n 1, 1) := by decide +kernel
theorem dX1_become_16 : decode cX1_become 16 = .ok (.getfield 15, 3) := by decide +kernel
theorem dX1_become_19 : decode cX1_become 19 = .ok (.iconst 0, 1) := by decide +kernel
theorem dX1_become_20 : decode cX1_become 20 = .ok (.aload_n 0, 1) := by decide +kernel
theorem dX1_become_21 : decode cX1_become 21 = .ok (.getfield 15, 3) := by decide +kernel
theorem dX1_become_24 : decode cX1_become 24 = .ok (.iconst 0, 1) := by decide +kernel
theorem dX1_become_25 : decode cX1_become 25 = .ok (.bipush 20, 2) := by decide +kernel
theorem dX1_become_27 : decode cX1_become 27 = .ok (.invokestatic 25, 3) := by decide +kernel
theorem dX1_become_30 : decode cX1_become 30 = .ok (.aload_n 0, 1) := by decide +kernel
theorem dX1_become_31 : decode cX1_become 31 = .ok (.aload_n 1, 1) := by decide +kernel
theorem dX1_become_32 : decode cX1_become 32 = .ok (.getfield 18, 3) := by decide +kernel
theorem dX1_become_35 : decode cX1_become 35 = .ok (.putfield 18, 3) := by decide +kernel
theorem dX1_become_38 : decode cX1_become 38 = .ok (.aload_n 0, 1) := by decide +kernel
theorem dX1_become_39 : decode cX1_become 39 = .ok (.aload_n 1, 1) := by decide +kernel
theorem dX1_become_40 : decode cX1_become 40 = .ok (.getfield 22, 3) := by decide +kernel
theorem dX1_become_43 : decode cX1_become 43 = .ok (.putfield 22, 3) := by decide +kernel
theorem dX1_become_46 : decode cX1_become 46 = .ok (.return_, 1) := by decide +kernel
theorem dX7_is_0 : decode cX7_is 0 = .ok (.aload_n 0, 1) := by decide +kernel
theorem dX7_is_1 : decode cX7_is 1 = .ok (.getfield 61, 3) := by decide +kernel
theorem dX7_is_4 : decode cX7_is 4 = .ok (.iconst 1, 1) := by decide +kernel
theorem dX7_is_5 : decode cX7_is 5 = .ok (.if_icmp .ne 19, 3) := by decide +kernel
theorem dX7_is_8 : decode cX7_is 8 = .ok (.aload_n 0, 1) := by decide +kernel
theorem dX7_is_9 : decode cX7_is 9 = .ok (.getfield 51, 3) := by decide +kernel
theorem dX7_is_12 : decode cX7_is 12 = .ok (.aload_n 0, 1) := by decide +kernel
theorem dX7_is_13 : decode cX7_is 13 = .ok (.getfield 68, 3) := by decide +kernel
theorem dX7_is_16 : decode cX7_is 16 = .ok (.isub, 1) := by decide +kernel
theorem dX7_is_17 : decode cX7_is 17 = .ok (.aload_n 1, 1) := by decide +kernel
theorem dX7_is_18 : decode cX7_is 18 = .ok (.invokevirtual 77, 3) := by decide +kernel
theorem dX7_is_21 : decode cX7_is 21 = .ok (.if_icmp .eq 5, 3) := by decide +kernel
theorem dX7_is_24 : decode cX7_is 24 = .ok (.iconst 0, 1) := by decide +kernel
theorem dX7_is_25 : decode cX7_is 25 = .ok (.ireturn, 1) := by decide +kernel
theorem dX7_is_26 : decode cX7_is 26 = .ok (.iconst 0, 1) := by decide +kernel
theorem dX7_is_27 : decode cX7_is 27 = .ok (.istore_n 2, 1) := by decide +kernel
theorem dX7_is_28 : decode cX7_is 28 = .ok (.iload_n 2, 1) := by decide +kernel
theorem dX7_is_29 : decode cX7_is 29 = .ok (.aload_n 1, 1) := by decide +kernel
theorem dX7_is_30 : decode cX7_is 30 = .ok (.invokevirtual 77, 3) := by decide +kernel
theorem dX7_is_33 : decode cX7_is 33 = .ok (.if_icmp .ge 30, 3) := by decide +kernel
theorem dX7_is_36 : decode cX7_is 36 = .ok (.aload_n 0, 1) := by decide +kernel
theorem dX7_is_37 : decode cX7_is 37 = .ok (.getfield 9, 3) := by decide +kernel
theorem dX7_is_40 : decode cX7_is 40 = .ok (.aload_n 0, 1) := by decide +kernel
theorem dX7_is_41 : decode cX7_is 41 = .ok (.getfield 68, 3) := by decide +kernel
theorem dX7_is_44 : decode cX7_is 44 = .ok (.iload_n 2, 1) := by decide +kernel
theorem dX7_is_45 : decode cX7_is 45 = .ok (.iadd, 1) := by decide +kernel
theorem dX7_is_46 : decode cX7_is 46 = .ok (.baload, 1) := by decide +kernel
theorem dX7_is_47 : decode cX7_is 47 = .ok (.aload_n 1, 1) := by decide +kernel
theorem dX7_is_48 : decode cX7_is 48 = .ok (.iload_n 2, 1) := by decide +kernel
theorem dX7_is_49 : decode cX7_is 49 = .ok (.invokevirtual 83, 3) := by decide +kernel
theorem dX7_is_52 : decode cX7_is 52 = .ok (.if_icmp .eq 5, 3) := by decide +kernel
theorem dX7_is_55 : decode cX7_is 55 = .ok (.iconst 0, 1) := by decide +kernel
theorem dX7_is_56 : decode cX7_is 56 = .ok (.ireturn, 1) := by decide +kernel
theorem dX7_is_57 : decode cX7_is 57 = .ok (.iinc 2 1, 3) := by decide +kernel
theorem dX7_is_60 : decode cX7_is 60 = .ok (.goto (-32), 3) := by decide +kernel
theorem dX7_is_63 : decode cX7_is 63 = .ok (.iconst 1, 1) := by decide +kernel
theorem dX7_is_64 : decode cX7_is 64 = .ok (.ireturn, 1) := by decide +kernel
theorem dX7_passWhole_0 : decode cX7_passWhole 0 = .ok (.aload_n 0, 1) := by decide +kernel
theorem dX7_passWhole_1 : decode cX7_passWhole 1 = .ok (.aload_n 1, 1) := by decide +kernel
theorem dX7_passWhole_2 : decode cX7_passWhole 2 = .ok (.invokevirtual 87, 3) := by decide +kernel
theorem dX7_passWhole_5 : decode cX7_passWhole 5 = .ok (.ifCond .ne 11, 3) := by decide +kernel
theorem dX7_passWhole_8 : decode cX7_passWhole 8 = .ok (.aload_n 0, 1) := by decide +kernel
theorem dX7_passWhole_9 : decode cX7_passWhole 9 = .ok (.iconst 1, 1) := by decide +kernel
theorem dX7_passWhole_10 : decode cX7_passWhole 10 = .ok (.invokevirtual 64, 3) := by decide +kernel
theorem dX7_passWhole_13 : decode cX7_passWhole 13 = .ok (.pop, 1) := by decide +kernel
theorem dX7_passWhole_14 : decode cX7_passWhole 14 = .ok (.iconst (-1), 1) := by decide +kernel
theorem dX7_passWhole_15 : decode cX7_passWhole 15 = .ok (.ireturn, 1) := by decide +kernel
theorem dX7_passWhole_16 : decode cX7_passWhole 16 = .ok (.aload_n 0, 1) := by decide +kernel
theorem dX7_passWhole_17 : decode cX7_passWhole 17 = .ok (.invokevirtual 54, 3) := by decide +kernel
theorem dX7_passWhole_20 : decode cX7_passWhole 20 = .ok (.aload_n 0, 1) := by decide +kernel
theorem dX7_passWhole_21 : decode cX7_passWhole 21 = .ok (.iload_n 2, 1) := by decide +kernel
theorem dX7_passWhole_22 : decode cX7_passWhole 22 = .ok (.iload_n 3, 1) := by decide +kernel
theorem dX7_passWhole_23 : decode cX7_passWhole 23 = .ok (.invokevirtual 91, 3) := by decide +kernel
theorem dX7_passWhole_26 : decode cX7_passWhole 26 = .ok (.ifCond .ne 5, 3) := by decide +kernel
theorem dX7_passWhole_29 : decode cX7_passWhole 29 = .ok (.iconst (-1), 1) := by decide +kernel
theorem dX7_passWhole_30 : decode cX7_passWhole 30 = .ok (.ireturn, 1) := by decide +kernel
theorem dX7_passWhole_31 : decode cX7_passWhole 31 = .ok (.aload_n 0, 1) := by decide +kernel
theorem dX7_passWhole_32 : decode cX7_passWhole 32 = .ok (.getfield 74, 3) := by decide +kernel
theorem dX7_passWhole_35 : decode cX7_passWhole 35 = .ok (.istore 4, 2) := by decide +kernel
theorem dX7_passWhole_37 : decode cX7_passWhole 37 = .ok (.aload_n 0, 1) := by decide +kernel
theorem dX7_passWhole_38 : decode cX7_passWhole 38 = .ok (.invokevirtual 54, 3) := by decide +kernel
theorem dX7_passWhole_41 : decode cX7_passWhole 41 = .ok (.iload 4, 2) := by decide +kernel
theorem dX7_passWhole_43 : decode cX7_passWhole 43 = .ok (.ireturn, 1) := by decide +kernel
theorem dX7_pass_0 : decode cX7_pass 0 = .ok (.aload_n 0, 1) := by decide +kernel
theorem dX7_pass_1 : decode cX7_pass 1 = .ok (.aload_n 1, 1) := by decide +kernel
theorem dX7_pass_2 : decode cX7_pass 2 = .ok (.invokevirtual 87, 3) := by decide +kernel
theorem dX7_pass_5 : decode cX7_pass 5 = .ok (.ifCond .ne 9, 3) := by decide +kernel
theorem dX7_pass_8 : decode cX7_pass 8 = .ok (.aload_n 0, 1) := by decide +kernel
theorem dX7_pass_9 : decode cX7_pass 9 = .ok (.iconst 1, 1) := by decide +kernel
theorem dX7_pass_10 : decode cX7_pass 10 = .ok (.invokevirtual 64, 3) := by decide +kernel
theorem dX7_pass_13 : decode cX7_pass 13 = .ok (.ireturn, 1) := by decide +kernel
theorem dX7_pass_14 : decode cX7_pass 14 = .ok (.aload_n 0, 1) := by decide +kernel
theorem dX7_pass_15 : decode cX7_pass 15 = .ok (.invokevirtual 54, 3) := by decide +kernel
theorem dX7_pass_18 : decode cX7_pass 18 = .ok (.iconst 1, 1) := by decide +kernel
theorem dX7_pass_19 : decode cX7_pass 19 = .ok (.ireturn, 1) := by decide +kernel
theorem dX7_readSuits_0 : decode cX7_readSuits 0 = .ok (.aload_n 0, 1) := by decide +kernel
theorem dX7_readSuits_1 : decode cX7_readSuits 1 = .ok (.ldc 148, 2) := by decide +kernel
theorem dX7_readSuits_3 : decode cX7_readSuits 3 = .ok (.invokevirtual 150, 3) := by decide +kernel
theorem dX7_readSuits_6 : decode cX7_readSuits 6 = .ok (.ifCond .eq 12, 3) := by decide +kernel
theorem dX7_readSuits_9 : decode cX7_readSuits 9 = .ok (.aload_n 0, 1) := by decide +kernel
theorem dX7_readSuits_10 : decode cX7_readSuits 10 = .ok (.iconst 1, 1) := by decide +kernel
theorem dX7_readSuits_11 : decode cX7_readSuits 11 = .ok (.iconst 4, 1) := by decide +kernel
theorem dX7_readSuits_12 : decode cX7_readSuits 12 = .ok (.invokevirtual 91, 3) := by decide +kernel
theorem dX7_readSuits_15 : decode cX7_readSuits 15 = .ok (.ifCond .ne 5, 3) := by decide +kernel
theorem dX7_readSuits_18 : decode cX7_readSuits 18 = .ok (.iconst 0, 1) := by decide +kernel
theorem dX7_readSuits_19 : decode cX7_readSuits 19 = .ok (.ireturn, 1) := by decide +kernel
theorem dX7_readSuits_20 : decode cX7_readSuits 20 = .ok (.aload_n 0, 1) := by decide +kernel
theorem dX7_readSuits_21 : decode cX7_readSuits 21 = .ok (.getfield 74, 3) := by decide +kernel
theorem dX7_readSuits_24 : decode cX7_readSuits 24 = .ok (.iconst 1, 1) := by decide +kernel
theorem dX7_readSuits_25 : decode cX7_readSuits 25 = .ok (.if_icmp .lt 15, 3) := by decide +kernel
theorem dX7_readSuits_28 : decode cX7_readSuits 28 = .ok (.aload_n 1, 1) := by decide +kernel
theorem dX7_readSuits_29 : decode cX7_readSuits 29 = .ok (.getfield 124, 3) := by decide +kernel
theorem dX7_readSuits_32 : decode cX7_readSuits 32 = .ok (.aload_n 0, 1) := by decide +kernel
theorem dX7_readSuits_33 : decode cX7_readSuits 33 = .ok (.getfield 74, 3) := by decide +kernel
theorem dX7_readSuits_36 : decode cX7_readSuits 36 = .ok (.irem, 1) := by decide +kernel
theorem dX7_readSuits_37 : decode cX7_readSuits 37 = .ok (.ifCond .eq 9, 3) := by decide +kernel
theorem dX7_readSuits_40 : decode cX7_readSuits 40 = .ok (.aload_n 0, 1) := by decide +kernel
theorem dX7_readSuits_41 : decode cX7_readSuits 41 = .ok (.iconst 4, 1) := by decide +kernel
theorem dX7_readSuits_42 : decode cX7_readSuits 42 = .ok (.invokevirtual 64, 3) := by decide +kernel
theorem dX7_readSuits_45 : decode cX7_readSuits 45 = .ok (.ireturn, 1) := by decide +kernel
theorem dX7_readSuits_46 : decode cX7_readSuits 46 = .ok (.aload_n 1, 1) := by decide +kernel
theorem dX7_readSuits_47 : decode cX7_readSuits 47 = .ok (.aload_n 0, 1) := by decide +kernel
theorem dX7_readSuits_48 : decode cX7_readSuits 48 = .ok (.getfield 74, 3) := by decide +kernel
theorem dX7_readSuits_51 : decode cX7_readSuits 51 = .ok (.putfield 153, 3) := by decide +kernel
theorem dX7_readSuits_54 : decode cX7_readSuits 54 = .ok (.aload_n 0, 1) := by decide +kernel
theorem dX7_readSuits_55 : decode cX7_readSuits 55 = .ok (.invokevirtual 54, 3) := by decide +kernel
theorem dX7_readSuits_58 : decode cX7_readSuits 58 = .ok (.iconst 1, 1) := by decide +kernel
theorem dX7_readSuits_59 : decode cX7_readSuits 59 = .ok (.ireturn, 1) := by decide +kernel
theorem dX7_readWay_0 : decode cX7_readWay 0 = .ok (.aload_n 1, 1) := by decide +kernel
theorem dX7_readWay_1 : decode cX7_readWay 1 = .ok (.aload_n 0, 1) := by decide +kernel
theorem dX7_readWay_2 : decode cX7_readWay 2 = .ok (.ldc 155, 2) := by decide +kernel
theorem dX7_readWay_4 : decode cX7_readWay 4 = .ok (.invokevirtual 87, 3) := by decide +kernel
theorem dX7_readWay_7 : decode cX7_readWay 7 = .ok (.putfield 157, 3) := by decide +kernel
theorem dX7_readWay_10 : decode cX7_readWay 10 = .ok (.aload_n 1, 1) := by decide +kernel
theorem dX7_readWay_11 : decode cX7_readWay 11 = .ok (.getfield 157, 3) := by decide +kernel
theorem dX7_readWay_14 : decode cX7_readWay 14 = .ok (.ifCond .ne 18, 3) := by decide +kernel
theorem dX7_readWay_17 : decode cX7_readWay 17 = .ok (.aload_n 0, 1) := by decide +kernel
theorem dX7_readWay_18 : decode cX7_readWay 18 = .ok (.ldc 159, 2) := by decide +kernel
theorem dX7_readWay_20 : decode cX7_readWay 20 = .ok (.invokevirtual 87, 3) := by decide +kernel
theorem dX7_readWay_23 : decode cX7_readWay 23 = .ok (.ifCond .ne 9, 3) := by decide +kernel
theorem dX7_readWay_26 : decode cX7_readWay 26 = .ok (.aload_n 0, 1) := by decide +kernel
theorem dX7_readWay_27 : decode cX7_readWay 27 = .ok (.iconst 1, 1) := by decide +kernel
theorem dX7_readWay_28 : decode cX7_readWay 28 = .ok (.invokevirtual 64, 3) := by decide +kernel
theorem dX7_readWay_31 : decode cX7_readWay 31 = .ok (.ireturn, 1) := by decide +kernel
theorem dX7_readWay_32 : decode cX7_readWay 32 = .ok (.aload_n 1, 1) := by decide +kernel
theorem dX7_readWay_33 : decode cX7_readWay 33 = .ok (.aload_n 1, 1) := by decide +kernel
theorem dX7_readWay_34 : decode cX7_readWay 34 = .ok (.getfield 124, 3) := by decide +kernel
theorem dX7_readWay_37 : decode cX7_readWay 37 = .ok (.invokevirtual 161, 3) := by decide +kernel
theorem dX7_readWay_40 : decode cX7_readWay 40 = .ok (.ldc2_w 165, 3) := by decide +kernel
theorem dX7_readWay_43 : decode cX7_readWay 43 = .ok (.lcmp, 1) := by decide +kernel
theorem dX7_readWay_44 : decode cX7_readWay 44 = .ok (.ifCond .le 10, 3) := by decide +kernel
theorem dX7_readWay_47 : decode cX7_readWay 47 = .ok (.aload_n 0, 1) := by decide +kernel
theorem dX7_readWay_48 : decode cX7_readWay 48 = .ok (.bipush 7, 2) := by decide +kernel
theorem dX7_readWay_50 : decode cX7_readWay 50 = .ok (.invokevirtual 64, 3) := by decide +kernel
theorem dX7_readWay_53 : decode cX7_readWay 53 = .ok (.ireturn, 1) := by decide +kernel
theorem dX7_readWay_54 : decode cX7_readWay 54 = .ok (.aload_n 0, 1) := by decide +kernel
theorem dX7_readWay_55 : decode cX7_readWay 55 = .ok (.invokevirtual 54, 3) := by decide +kernel
theorem dX7_readWay_58 : decode cX7_readWay 58 = .ok (.aload_n 1, 1) := by decide +kernel
theorem dX7_readWay_59 : decode cX7_readWay 59 = .ok (.aload_n 1, 1) := by decide +kernel
theorem dX7_readWay_60 : decode cX7_readWay 60 = .ok (.getfield 157, 3) := by decide +kernel
theorem dX7_readWay_63 : decode cX7_readWay 63 = .ok (.ifCond .ne 16, 3) := by decide +kernel
theorem dX7_readWay_66 : decode cX7_readWay 66 = .ok (.aload_n 0, 1) := by decide +kernel
theorem dX7_readWay_67 : decode cX7_readWay 67 = .ok (.ldc 167, 2) := by decide +kernel
theorem dX7_readWay_69 : decode cX7_readWay 69 = .ok (.invokevirtual 87, 3) := by decide +kernel
theorem dX7_readWay_72 : decode cX7_readWay 72 = .ok (.ifCond .eq 7, 3) := by decide +kernel
theorem dX7_readWay_75 : decode cX7_readWay 75 = .ok (.iconst 1, 1) := by decide +kernel
theorem dX7_readWay_76 : decode cX7_readWay 76 = .ok (.goto 4, 3) := by decide +kernel
theorem dX7_readWay_79 : decode cX7_readWay 79 = .ok (.iconst 0, 1) := by decide +kernel
theorem dX7_readWay_80 : decode cX7_readWay 80 = .ok (.putfield 169, 3) := by decide +kernel
theorem dX7_readWay_83 : decode cX7_readWay 83 = .ok (.aload_n 1, 1) := by decide +kernel
theorem dX7_readWay_84 : decode cX7_readWay 84 = .ok (.getfield 169, 3) := by decide +kernel
theorem dX7_readWay_87 : decode cX7_readWay 87 = .ok (.ifCond .eq 7, 3) := by decide +kernel
theorem dX7_readWay_90 : decode cX7_readWay 90 = .ok (.aload_n 0, 1) := by decide +kernel
theorem dX7_readWay_91 : decode cX7_readWay 91 = .ok (.invokevirtual 54, 3) := by decide +kernel
theorem dX7_readWay_94 : decode cX7_readWay 94 = .ok (.aload_n 1, 1) := by decide +kernel
theorem dX7_readWay_95 : decode cX7_readWay 95 = .ok (.aload_n 0, 1) := by decide +kernel
theorem dX7_readWay_96 : decode cX7_readWay 96 = .ok (.ldc 171, 2) := by decide +kernel
theorem dX7_readWay_98 : decode cX7_readWay 98 = .ok (.invokevirtual 87, 3) := by decide +kernel
theorem dX7_readWay_101 : decode cX7_readWay 101 = .ok (.putfield 173, 3) := by decide +kernel
theorem dX7_readWay_104 : decode cX7_readWay 104 = .ok (.aload_n 1, 1) := by decide +kernel
theorem dX7_readWay_105 : decode cX7_readWay 105 = .ok (.getfield 173, 3) := by decide +kernel
theorem dX7_readWay_108 : decode cX7_readWay 108 = .ok (.ifCond .eq 7, 3) := by decide +kernel
theorem dX7_readWay_111 : decode cX7_readWay 111 = .ok (.aload_n 0, 1) := by decide +kernel
theorem dX7_readWay_112 : decode cX7_readWay 112 = .ok (.invokevirtual 54, 3) := by decide +kernel
theorem dX7_readWay_115 : decode cX7_readWay 115 = .ok (.iconst 1, 1) := by decide +kernel
theorem dX7_readWay_116 : decode cX7_readWay 116 = .ok (.ireturn, 1) := by decide +kernel
theorem dX7_readTrick_0 : decode cX7_readTrick 0 = .ok (.aload_n 0, 1) := by decide +kernel
theorem dX7_readTrick_1 : decode cX7_readTrick 1 = .ok (.getfield 18, 3) := by decide +kernel
theorem dX7_readTrick_4 : decode cX7_readTrick 4 = .ok (.getfield 110, 3) := by decide +kernel
theorem dX7_readTrick_7 : decode cX7_readTrick 7 = .ok (.ifCond .eq 9, 3) := by decide +kernel
theorem dX7_readTrick_10 : decode cX7_readTrick 10 = .ok (.aload_n 0, 1) := by decide +kernel
theorem dX7_readTrick_11 : decode cX7_readTrick 11 = .ok (.iconst 3, 1) := by decide +kernel
theorem dX7_readTrick_12 : decode cX7_readTrick 12 = .ok (.invokevirtual 64, 3) := by decide +kernel
theorem dX7_readTrick_15 : decode cX7_readTrick 15 = .ok (.ireturn, 1) := by decide +kernel
theorem dX7_readTrick_16 : decode cX7_readTrick 16 = .ok (.aload_n 0, 1) := by decide +kernel
theorem dX7_readTrick_17 : decode cX7_readTrick 17 = .ok (.invokevirtual 54, 3) := by decide +kernel
theorem dX7_readTrick_20 : decode cX7_readTrick 20 = .ok (.aload_n 0, 1) := by decide +kernel
theorem dX7_readTrick_21 : decode cX7_readTrick 21 = .ok (.getfield 18, 3) := by decide +kernel
theorem dX7_readTrick_24 : decode cX7_readTrick 24 = .ok (.getfield 114, 3) := by decide +kernel
theorem dX7_readTrick_27 : decode cX7_readTrick 27 = .ok (.astore_n 1, 1) := by decide +kernel
theorem dX7_readTrick_28 : decode cX7_readTrick 28 = .ok (.aload_n 1, 1) := by decide +kernel
theorem dX7_readTrick_29 : decode cX7_readTrick 29 = .ok (.aload_n 0, 1) := by decide +kernel
theorem dX7_readTrick_30 : decode cX7_readTrick 30 = .ok (.ldc 118, 2) := by decide +kernel
theorem dX7_readTrick_32 : decode cX7_readTrick 32 = .ok (.iconst 4, 1) := by decide +kernel
theorem dX7_readTrick_33 : decode cX7_readTrick 33 = .ok (.bipush 12, 2) := by decide +kernel
theorem dX7_readTrick_35 : decode cX7_readTrick 35 = .ok (.invokevirtual 120, 3) := by decide +kernel
theorem dX7_readTrick_38 : decode cX7_readTrick 38 = .ok (.putfield 124, 3) := by decide +kernel
theorem dX7_readTrick_41 : decode cX7_readTrick 41 = .ok (.aload_n 1, 1) := by decide +kernel
theorem dX7_readTrick_42 : decode cX7_readTrick 42 = .ok (.getfield 124, 3) := by decide +kernel
theorem dX7_readTrick_45 : decode cX7_readTrick 45 = .ok (.ifCond .lt 11, 3) := by decide +kernel
theorem dX7_readTrick_48 : decode cX7_readTrick 48 = .ok (.aload_n 0, 1) := by decide +kernel
theorem dX7_readTrick_49 : decode cX7_readTrick 49 = .ok (.aload_n 1, 1) := by decide +kernel
theorem dX7_readTrick_50 : decode cX7_readTrick 50 = .ok (.invokevirtual 128, 3) := by decide +kernel
theorem dX7_readTrick_53 : decode cX7_readTrick 53 = .ok (.ifCond .ne 5, 3) := by decide +kernel
theorem dX7_readTrick_56 : decode cX7_readTrick 56 = .ok (.iconst 0, 1) := by decide +kernel
theorem dX7_readTrick_57 : decode cX7_readTrick 57 = .ok (.ireturn, 1) := by decide +kernel
theorem dX7_readTrick_58 : decode cX7_readTrick 58 = .ok (.aload_n 1, 1) := by decide +kernel
theorem dX7_readTrick_59 : decode cX7_readTrick 59 = .ok (.aload_n 0, 1) := by decide +kernel
theorem dX7_readTrick_60 : decode cX7_readTrick 60 = .ok (.ldc 132, 2) := by decide +kernel
theorem dX7_readTrick_62 : decode cX7_readTrick 62 = .ok (.iconst 2, 1) := by decide +kernel
theorem dX7_readTrick_63 : decode cX7_readTrick 63 = .ok (.iconst 5, 1) := by decide +kernel
theorem dX7_readTrick_64 : decode cX7_readTrick 64 = .ok (.aload_n 1, 1) := by decide +kernel
theorem dX7_readTrick_65 : decode cX7_readTrick 65 = .ok (.getfield 124, 3) := by decide +kernel
theorem dX7_readTrick_68 : decode cX7_readTrick 68 = .ok (.invokestatic 32, 3) := by decide +kernel
theorem dX7_readTrick_71 : decode cX7_readTrick 71 = .ok (.invokevirtual 120, 3) := by decide +kernel
theorem dX7_readTrick_74 : decode cX7_readTrick 74 = .ok (.putfield 134, 3) := by decide +kernel
theorem dX7_readTrick_77 : decode cX7_readTrick 77 = .ok (.aload_n 1, 1) := by decide +kernel
theorem dX7_readTrick_78 : decode cX7_readTrick 78 = .ok (.getfield 134, 3) := by decide +kernel
theorem dX7_readTrick_81 : decode cX7_readTrick 81 = .ok (.ifCond .ge 5, 3) := by decide +kernel
theorem dX7_readTrick_84 : decode cX7_readTrick 84 = .ok (.iconst 0, 1) := by decide +kernel
theorem dX7_readTrick_85 : decode cX7_readTrick 85 = .ok (.ireturn, 1) := by decide +kernel
theorem dX7_readTrick_86 : decode cX7_readTrick 86 = .ok (.aload_n 1, 1) := by decide +kernel
theorem dX7_readTrick_87 : decode cX7_readTrick 87 = .ok (.aload_n 0, 1) := by decide +kernel
theorem dX7_readTrick_88 : decode cX7_readTrick 88 = .ok (.ldc 137, 2) := by decide +kernel
theorem dX7_readTrick_90 : decode cX7_readTrick 90 = .ok (.iconst 1, 1) := by decide +kernel
theorem dX7_readTrick_91 : decode cX7_readTrick 91 = .ok (.iconst 2, 1) := by decide +kernel
theorem dX7_readTrick_92 : decode cX7_readTrick 92 = .ok (.aload_n 1, 1) := by decide +kernel
theorem dX7_readTrick_93 : decode cX7_readTrick 93 = .ok (.getfield 134, 3) := by decide +kernel
theorem dX7_readTrick_96 : decode cX7_readTrick 96 = .ok (.iconst 1, 1) := by decide +kernel
theorem dX7_readTrick_97 : decode cX7_readTrick 97 = .ok (.isub, 1) := by decide +kernel
theorem dX7_readTrick_98 : decode cX7_readTrick 98 = .ok (.invokestatic 32, 3) := by decide +kernel
theorem dX7_readTrick_101 : decode cX7_readTrick 101 = .ok (.invokevirtual 120, 3) := by decide +kernel
theorem dX7_readTrick_104 : decode cX7_readTrick 104 = .ok (.putfield 139, 3) := by decide +kernel
theorem dX7_readTrick_107 : decode cX7_readTrick 107 = .ok (.aload_n 1, 1) := by decide +kernel
theorem dX7_readTrick_108 : decode cX7_readTrick 108 = .ok (.getfield 139, 3) := by decide +kernel
theorem dX7_readTrick_111 : decode cX7_readTrick 111 = .ok (.ifCond .lt 11, 3) := by decide +kernel
theorem dX7_readTrick_114 : decode cX7_readTrick 114 = .ok (.aload_n 0, 1) := by decide +kernel
theorem dX7_readTrick_115 : decode cX7_readTrick 115 = .ok (.aload_n 1, 1) := by decide +kernel
theorem dX7_readTrick_116 : decode cX7_readTrick 116 = .ok (.invokevirtual 142, 3) := by decide +kernel
theorem dX7_readTrick_119 : decode cX7_readTrick 119 = .ok (.ifCond .ne 5, 3) := by decide +kernel
theorem dX7_readTrick_122 : decode cX7_readTrick 122 = .ok (.iconst 0, 1) := by decide +kernel
theorem dX7_readTrick_123 : decode cX7_readTrick 123 = .ok (.ireturn, 1) := by decide +kernel
theorem dX7_readTrick_124 : decode cX7_readTrick 124 = .ok (.aload_n 1, 1) := by decide +kernel
theorem dX7_readTrick_125 : decode cX7_readTrick 125 = .ok (.invokevirtual 145, 3) := by decide +kernel
theorem dX7_readTrick_128 : decode cX7_readTrick 128 = .ok (.aload_n 0, 1) := by decide +kernel
theorem dX7_readTrick_129 : decode cX7_readTrick 129 = .ok (.getfield 18, 3) := by decide +kernel
theorem dX7_readTrick_132 : decode cX7_readTrick 132 = .ok (.iconst 1, 1) := by decide +kernel
theorem dX7_readTrick_133 : decode cX7_readTrick 133 = .ok (.putfield 110, 3) := by decide +kernel
theorem dX7_readTrick_136 : decode cX7_readTrick 136 = .ok (.iconst 1, 1) := by decide +kernel
theorem dX7_readTrick_137 : decode cX7_readTrick 137 = .ok (.ireturn, 1) := by decide +kernel
theorem dX7_readName_0 : decode cX7_readName 0 = .ok (.aload_n 0, 1) := by decide +kernel
theorem dX7_readName_1 : decode cX7_readName 1 = .ok (.getfield 61, 3) := by decide +kernel
theorem dX7_readName_4 : decode cX7_readName 4 = .ok (.iconst 1, 1) := by decide +kernel
theorem dX7_readName_5 : decode cX7_readName 5 = .ok (.if_icmp .ne 48, 3) := by decide +kernel
theorem dX7_readName_8 : decode cX7_readName 8 = .ok (.aload_n 0, 1) := by decide +kernel
theorem dX7_readName_9 : decode cX7_readName 9 = .ok (.ldc 95, 2) := by decide +kernel
theorem dX7_readName_11 : decode cX7_readName 11 = .ok (.invokevirtual 87, 3) := by decide +kernel
theorem dX7_readName_14 : decode cX7_readName 14 = .ok (.ifCond .ne 39, 3) := by decide +kernel
theorem dX7_readName_17 : decode cX7_readName 17 = .ok (.aload_n 0, 1) := by decide +kernel
theorem dX7_readName_18 : decode cX7_readName 18 = .ok (.ldc 100, 2) := by decide +kernel
theorem dX7_readName_20 : decode cX7_readName 20 = .ok (.invokevirtual 87, 3) := by decide +kernel
theorem dX7_readName_23 : decode cX7_readName 23 = .ok (.ifCond .ne 30, 3) := by decide +kernel
theorem dX7_readName_26 : decode cX7_readName 26 = .ok (.aload_n 0, 1) := by decide +kernel
theorem dX7_readName_27 : decode cX7_readName 27 = .ok (.ldc 105, 2) := by decide +kernel
theorem dX7_readName_29 : decode cX7_readName 29 = .ok (.invokevirtual 87, 3) := by decide +kernel
theorem dX7_readName_32 : decode cX7_readName 32 = .ok (.ifCond .ne 21, 3) := by decide +kernel
theorem dX7_readName_35 : decode cX7_readName 35 = .ok (.aload_n 0, 1) := by decide +kernel
theorem dX7_readName_36 : decode cX7_readName 36 = .ok (.ldc 187, 2) := by decide +kernel
theorem dX7_readName_38 : decode cX7_readName 38 = .ok (.invokevirtual 87, 3) := by decide +kernel
theorem dX7_readName_41 : decode cX7_readName 41 = .ok (.ifCond .ne 12, 3) := by decide +kernel
theorem dX7_readName_44 : decode cX7_readName 44 = .ok (.aload_n 0, 1) := by decide +kernel
theorem dX7_readName_45 : decode cX7_readName 45 = .ok (.ldc 189, 2) := by decide +kernel
theorem dX7_readName_47 : decode cX7_readName 47 = .ok (.invokevirtual 87, 3) := by decide +kernel
theorem dX7_readName_50 : decode cX7_readName 50 = .ok (.ifCond .eq 9, 3) := by decide +kernel
theorem dX7_readName_53 : decode cX7_readName 53 = .ok (.aload_n 0, 1) := by decide +kernel
theorem dX7_readName_54 : decode cX7_readName 54 = .ok (.iconst 1, 1) := by decide +kernel
theorem dX7_readName_55 : decode cX7_readName 55 = .ok (.invokevirtual 64, 3) := by decide +kernel
theorem dX7_readName_58 : decode cX7_readName 58 = .ok (.ireturn, 1) := by decide +kernel
theorem dX7_readName_59 : decode cX7_readName 59 = .ok (.iconst 0, 1) := by decide +kernel
theorem dX7_readName_60 : decode cX7_readName 60 = .ok (.istore_n 1, 1) := by decide +kernel
theorem dX7_readName_61 : decode cX7_readName 61 = .ok (.iload_n 1, 1) := by decide +kernel
theorem dX7_readName_62 : decode cX7_readName 62 = .ok (.aload_n 0, 1) := by decide +kernel
theorem dX7_readName_63 : decode cX7_readName 63 = .ok (.getfield 18, 3) := by decide +kernel
theorem dX7_readName_66 : decode cX7_readName 66 = .ok (.getfield 175, 3) := by decide +kernel
theorem dX7_readName_69 : decode cX7_readName 69 = .ok (.if_icmp .ge 23, 3) := by decide +kernel
theorem dX7_readName_72 : decode cX7_readName 72 = .ok (.aload_n 0, 1) := by decide +kernel
theorem dX7_readName_73 : decode cX7_readName 73 = .ok (.iload_n 1, 1) := by decide +kernel
theorem dX7_readName_74 : decode cX7_readName 74 = .ok (.invokevirtual 191, 3) := by decide +kernel
theorem dX7_readName_77 : decode cX7_readName 77 = .ok (.ifCond .eq 9, 3) := by decide +kernel
theorem dX7_readName_80 : decode cX7_readName 80 = .ok (.aload_n 0, 1) := by decide +kernel
theorem dX7_readName_81 : decode cX7_readName 81 = .ok (.iconst 3, 1) := by decide +kernel
theorem dX7_readName_82 : decode cX7_readName 82 = .ok (.invokevirtual 64, 3) := by decide +kernel
theorem dX7_readName_85 : decode cX7_readName 85 = .ok (.ireturn, 1) := by decide +kernel
theorem dX7_readName_86 : decode cX7_readName 86 = .ok (.iinc 1 1, 3) := by decide +kernel
theorem dX7_readName_89 : decode cX7_readName 89 = .ok (.goto (-28), 3) := by decide +kernel
theorem dX7_readName_92 : decode cX7_readName 92 = .ok (.aload_n 0, 1) := by decide +kernel
theorem dX7_readName_93 : decode cX7_readName 93 = .ok (.getfield 22, 3) := by decide +kernel
theorem dX7_readName_96 : decode cX7_readName 96 = .ok (.aload_n 0, 1) := by decide +kernel
theorem dX7_readName_97 : decode cX7_readName 97 = .ok (.getfield 18, 3) := by decide +kernel
theorem dX7_readName_100 : decode cX7_readName 100 = .ok (.getfield 175, 3) := by decide +kernel
theorem dX7_readName_103 : decode cX7_readName 103 = .ok (.aload_n 0, 1) := by decide +kernel
theorem dX7_readName_104 : decode cX7_readName 104 = .ok (.getfield 68, 3) := by decide +kernel
theorem dX7_readName_107 : decode cX7_readName 107 = .ok (.iastore, 1) := by decide +kernel
theorem dX7_readName_108 : decode cX7_readName 108 = .ok (.aload_n 0, 1) := by decide +kernel
theorem dX7_readName_109 : decode cX7_readName 109 = .ok (.getfield 26, 3) := by decide +kernel
theorem dX7_readName_112 : decode cX7_readName 112 = .ok (.aload_n 0, 1) := by decide +kernel
theorem dX7_readName_113 : decode cX7_readName 113 = .ok (.getfield 18, 3) := by decide +kernel
theorem dX7_readName_116 : decode cX7_readName 116 = .ok (.getfield 175, 3) := by decide +kernel
theorem dX7_readName_119 : decode cX7_readName 119 = .ok (.aload_n 0, 1) := by decide +kernel
theorem dX7_readName_120 : decode cX7_readName 120 = .ok (.getfield 51, 3) := by decide +kernel
theorem dX7_readName_123 : decode cX7_readName 123 = .ok (.aload_n 0, 1) := by decide +kernel
theorem dX7_readName_124 : decode cX7_readName 124 = .ok (.getfield 68, 3) := by decide +kernel
theorem dX7_readName_127 : decode cX7_readName 127 = .ok (.isub, 1) := by decide +kernel
theorem dX7_readName_128 : decode cX7_readName 128 = .ok (.iastore, 1) := by decide +kernel
theorem dX7_readName_129 : decode cX7_readName 129 = .ok (.aload_n 0, 1) := by decide +kernel
theorem dX7_readName_130 : decode cX7_readName 130 = .ok (.invokevirtual 54, 3) := by decide +kernel
theorem dX7_readName_133 : decode cX7_readName 133 = .ok (.iconst 1, 1) := by decide +kernel
theorem dX7_readName_134 : decode cX7_readName 134 = .ok (.ireturn, 1) := by decide +kernel
theorem dX7_keepWord_0 : decode cX7_keepWord 0 = .ok (.aload_n 0, 1) := by decide +kernel
theorem dX7_keepWord_1 : decode cX7_keepWord 1 = .ok (.ldc 208, 2) := by decide +kernel
theorem dX7_keepWord_3 : decode cX7_keepWord 3 = .ok (.invokevirtual 87, 3) := by decide +kernel
theorem dX7_keepWord_6 : decode cX7_keepWord 6 = .ok (.ifCond .eq 7, 3) := by decide +kernel
theorem dX7_keepWord_9 : decode cX7_keepWord 9 = .ok (.iconst 0, 1) := by decide +kernel
theorem dX7_keepWord_10 : decode cX7_keepWord 10 = .ok (.goto 43, 3) := by decide +kernel
theorem dX7_keepWord_13 : decode cX7_keepWord 13 = .ok (.aload_n 0, 1) := by decide +kernel
theorem dX7_keepWord_14 : decode cX7_keepWord 14 = .ok (.ldc 210, 2) := by decide +kernel
theorem dX7_keepWord_16 : decode cX7_keepWord 16 = .ok (.invokevirtual 87, 3) := by decide +kernel
theorem dX7_keepWord_19 : decode cX7_keepWord 19 = .ok (.ifCond .eq 7, 3) := by decide +kernel
theorem dX7_keepWord_22 : decode cX7_keepWord 22 = .ok (.iconst 1, 1) := by decide +kernel
theorem dX7_keepWord_23 : decode cX7_keepWord 23 = .ok (.goto 30, 3) := by decide +kernel
theorem dX7_keepWord_26 : decode cX7_keepWord 26 = .ok (.aload_n 0, 1) := by decide +kernel
theorem dX7_keepWord_27 : decode cX7_keepWord 27 = .ok (.ldc 212, 2) := by decide +kernel
theorem dX7_keepWord_29 : decode cX7_keepWord 29 = .ok (.invokevirtual 87, 3) := by decide +kernel
theorem dX7_keepWord_32 : decode cX7_keepWord 32 = .ok (.ifCond .eq 7, 3) := by decide +kernel
theorem dX7_keepWord_35 : decode cX7_keepWord 35 = .ok (.iconst 2, 1) := by decide +kernel
theorem dX7_keepWord_36 : decode cX7_keepWord 36 = .ok (.goto 17, 3) := by decide +kernel
theorem dX7_keepWord_39 : decode cX7_keepWord 39 = .ok (.aload_n 0, 1) := by decide +kernel
theorem dX7_keepWord_40 : decode cX7_keepWord 40 = .ok (.ldc 214, 2) := by decide +kernel
theorem dX7_keepWord_42 : decode cX7_keepWord 42 = .ok (.invokevirtual 87, 3) := by decide +kernel
theorem dX7_keepWord_45 : decode cX7_keepWord 45 = .ok (.ifCond .eq 7, 3) := by decide +kernel
theorem dX7_keepWord_48 : decode cX7_keepWord 48 = .ok (.iconst 3, 1) := by decide +kernel
theorem dX7_keepWord_49 : decode cX7_keepWord 49 = .ok (.goto 4, 3) := by decide +kernel
theorem dX7_keepWord_52 : decode cX7_keepWord 52 = .ok (.iconst (-1), 1) := by decide +kernel
theorem dX7_keepWord_53 : decode cX7_keepWord 53 = .ok (.ireturn, 1) := by decide +kernel
theorem dX7_tellWord_0 : decode cX7_tellWord 0 = .ok (.aload_n 0, 1) := by decide +kernel
theorem dX7_tellWord_1 : decode cX7_tellWord 1 = .ok (.ldc 216, 2) := by decide +kernel
theorem dX7_tellWord_3 : decode cX7_tellWord 3 = .ok (.invokevirtual 87, 3) := by decide +kernel
theorem dX7_tellWord_6 : decode cX7_tellWord 6 = .ok (.ifCond .eq 7, 3) := by decide +kernel
theorem dX7_tellWord_9 : decode cX7_tellWord 9 = .ok (.iconst 0, 1) := by decide +kernel
theorem dX7_tellWord_10 : decode cX7_tellWord 10 = .ok (.goto 56, 3) := by decide +kernel
theorem dX7_tellWord_13 : decode cX7_tellWord 13 = .ok (.aload_n 0, 1) := by decide +kernel
theorem dX7_tellWord_14 : decode cX7_tellWord 14 = .ok (.ldc 218, 2) := by decide +kernel
theorem dX7_tellWord_16 : decode cX7_tellWord 16 = .ok (.invokevirtual 87, 3) := by decide +kernel
theorem dX7_tellWord_19 : decode cX7_tellWord 19 = .ok (.ifCond .eq 7, 3) := by decide +kernel
theorem dX7_tellWord_22 : decode cX7_tellWord 22 = .ok (.iconst 1, 1) := by decide +kernel
theorem dX7_tellWord_23 : decode cX7_tellWord 23 = .ok (.goto 43, 3) := by decide +kernel
theorem dX7_tellWord_26 : decode cX7_tellWord 26 = .ok (.aload_n 0, 1) := by decide +kernel
theorem dX7_tellWord_27 : decode cX7_tellWord 27 = .ok (.ldc 220, 2) := by decide +kernel
theorem dX7_tellWord_29 : decode cX7_tellWord 29 = .ok (.invokevirtual 87, 3) := by decide +kernel
theorem dX7_tellWord_32 : decode cX7_tellWord 32 = .ok (.ifCond .eq 7, 3) := by decide +kernel
theorem dX7_tellWord_35 : decode cX7_tellWord 35 = .ok (.iconst 2, 1) := by decide +kernel
theorem dX7_tellWord_36 : decode cX7_tellWord 36 = .ok (.goto 30, 3) := by decide +kernel
theorem dX7_tellWord_39 : decode cX7_tellWord 39 = .ok (.aload_n 0, 1) := by decide +kernel
theorem dX7_tellWord_40 : decode cX7_tellWord 40 = .ok (.ldc 222, 2) := by decide +kernel
theorem dX7_tellWord_42 : decode cX7_tellWord 42 = .ok (.invokevirtual 87, 3) := by decide +kernel
theorem dX7_tellWord_45 : decode cX7_tellWord 45 = .ok (.ifCond .eq 7, 3) := by decide +kernel
theorem dX7_tellWord_48 : decode cX7_tellWord 48 = .ok (.iconst 3, 1) := by decide +kernel
theorem dX7_tellWord_49 : decode cX7_tellWord 49 = .ok (.goto 17, 3) := by decide +kernel
theorem dX7_tellWord_52 : decode cX7_tellWord 52 = .ok (.aload_n 0, 1) := by decide +kernel
theorem dX7_tellWord_53 : decode cX7_tellWord 53 = .ok (.ldc 214, 2) := by decide +kernel
theorem dX7_tellWord_55 : decode cX7_tellWord 55 = .ok (.invokevirtual 87, 3) := by decide +kernel
theorem dX7_tellWord_58 : decode cX7_tellWord 58 = .ok (.ifCond .eq 7, 3) := by decide +kernel
theorem dX7_tellWord_61 : decode cX7_tellWord 61 = .ok (.iconst 4, 1) := by decide +kernel
theorem dX7_tellWord_62 : decode cX7_tellWord 62 = .ok (.goto 4, 3) := by decide +kernel
theorem dX7_tellWord_65 : decode cX7_tellWord 65 = .ok (.iconst (-1), 1) := by decide +kernel
theorem dX7_tellWord_66 : decode cX7_tellWord 66 = .ok (.ireturn, 1) := by decide +kernel
set_option maxHeartbeats 4000000 in
set_option maxRecDepth 100000 in
theorem sX1_become {l : Launch} {D : va_G} {cA : Nat → ClassId} {base : Nat} {sA : Nat → Nat} {r0 : Nat} {r1 : Nat} {h hE : Zh} (hf : fX1_become r0 r1 h = some hE) : zC l yX1_become cX1_become 2 none 1 48 D cA base sA [.ref (base + r0), .ref (base + r1)] h none hE := by
  refine g_entry RX1 (by decide) rfl (Nat.le_of_ble_eq_true rfl) ?_
  intro p e s m args below meth c X hr
  unfold fX1_become at hf
  have hf := zlet_n (x := h) rfl hf
  show zG p l e { frames := 1, cells := 0, slots := 0, locals := 48 } s m args below meth c (MQ below (zQ D cA base h hE none) args s 0 0 (zA base)) 2 D cA base h 0 [(0, .ref (base + r0)), (1, .ref (base + r1))] [] h
  refine g_aload_n X 1 dX1_become_0 rfl ?_
  obtain ⟨hk1, hf⟩ := zite hf
  obtain ⟨r_2, hr_2, hf⟩ := zbd hf
  refine g_get X zf1 hk1 0 (by decide) w_f_RX1_9 rfl (zfv_r hr_2 rfl) dX1_become_1 ?_
  refine g_iconst X (v := 0) dX1_become_4 (by decide) ?_
  refine g_aload_n X 0 dX1_become_5 rfl ?_
  obtain ⟨hk3, hf⟩ := zite hf
  obtain ⟨r_4, hr_4, hf⟩ := zbd hf
  refine g_get X zf1 hk3 0 (by decide) w_f_RX1_9 rfl (zfv_r hr_4 rfl) dX1_become_6 ?_
  refine g_iconst X (v := 0) dX1_become_9 (by decide) ?_
  refine g_bipush X (v := 20) dX1_become_10 (by decide) ?_
  obtain ⟨hk5, hf⟩ := zite hf
  obtain ⟨hk6, hf⟩ := zite hf
  obtain ⟨hi7, hf⟩ := zite hf
  refine g_copy X hk5 hk6 hi7 w_cp1_RX1_25 w_cp2 w_cp3 w_cp4 (Nat.le_of_ble_eq_true rfl) (by decide) dX1_become_12 ?_
  refine g_hp (fun h8 eh8 => ?_)
  have hf := zlet_n eh8 hf
  refine g_aload_n X 1 dX1_become_15 rfl ?_
  obtain ⟨r_9, hr_9, hf⟩ := zbd hf
  refine g_get X zf1 hk1 1 (by decide) w_f_RX1_15 rfl (zfv_r hr_9 rfl) dX1_become_16 ?_
  refine g_iconst X (v := 0) dX1_become_19 (by decide) ?_
  refine g_aload_n X 0 dX1_become_20 rfl ?_
  obtain ⟨r_10, hr_10, hf⟩ := zbd hf
  refine g_get X zf1 hk3 1 (by decide) w_f_RX1_15 rfl (zfv_r hr_10 rfl) dX1_become_21 ?_
  refine g_iconst X (v := 0) dX1_become_24 (by decide) ?_
  refine g_bipush X (v := 20) dX1_become_25 (by decide) ?_
  obtain ⟨hk11, hf⟩ := zite hf
  obtain ⟨hk12, hf⟩ := zite hf
  obtain ⟨hi13, hf⟩ := zite hf
  refine g_copy X hk11 hk12 hi13 w_cp1_RX1_25 w_cp2 w_cp3 w_cp4 (Nat.le_of_ble_eq_true rfl) (by decide) dX1_become_27 ?_
  refine g_hp (fun h14 eh14 => ?_)
  have hf := zlet_n eh14 hf
  refine g_aload_n X 0 dX1_become_30 rfl ?_
  refine g_aload_n X 1 dX1_become_31 rfl ?_
  refine g_get X zf1 hk1 2 (by decide) w_f_RX1_18 rfl rfl dX1_become_32 ?_
  refine g_putI X zf1 hk3 2 (by decide) w_f_RX1_18 rfl rfl rfl dX1_become_35 ?_
  refine g_hp (fun h15 eh15 => ?_)
  have hf := zlet_n eh15 hf
  refine g_aload_n X 0 dX1_become_38 rfl ?_
  refine g_aload_n X 1 dX1_become_39 rfl ?_
  refine g_get X zf1 hk1 3 (by decide) w_f_RX1_22 rfl rfl dX1_become_40 ?_
  refine g_putI X zf1 hk3 3 (by decide) w_f_RX1_22 rfl rfl rfl dX1_become_43 ?_
  refine g_hp (fun h16 eh16 => ?_)
  have hf := zlet_n eh16 hf
  cases hf
  exact g_vret X hr dX1_become_46

set_option maxHeartbeats 4000000 in
set_option maxRecDepth 100000 in
theorem sX7_is {l : Launch} {D : va_G} {cA : Nat → ClassId} {base : Nat} {sA : Nat → Nat} {r0 : Nat} {s1 : Nat} {h hE : Zh} {rE : Int32} (hf : fX7_is r0 s1 h = some (rE, hE)) : zC l yX7_is cX7_is 3 (some .boolean) 4 85 D cA base sA [.ref (base + r0), .ref (sA s1)] h (some (.int rE)) hE := by
  refine g_entry RX7 (by decide) rfl (Nat.le_of_ble_eq_true rfl) ?_
  intro p e s m args below meth c X hr
  unfold fX7_is at hf
  have hf := zlet_n (x := h) rfl hf
  show zG p l e { frames := 4, cells := 0, slots := 0, locals := 85 } s m args below meth c (MQ below (zQ D cA base h hE (some (.int rE))) args s 0 0 (zA base)) 3 D cA base h 0 [(0, .ref (base + r0)), (1, .ref (sA s1))] [] h
  refine g_aload_n X 0 dX7_is_0 rfl ?_
  obtain ⟨hk1, hf⟩ := zite hf
  refine g_get X zf7 hk1 8 (by decide) w_f_RX7_61 rfl rfl dX7_is_1 ?_
  refine g_iconst X (v := 1) dX7_is_4 (by decide) ?_
  refine g_icmp_ne X 24 dX7_is_5 (by decide) (fun hq => ?_) (fun hq => ?_)
  · have hf := zneg hq hf
    refine g_iconst X (v := 0) dX7_is_24 (by decide) ?_
    obtain ⟨rfl, rfl⟩ := zsm hf
    exact g_zret X (Or.inl rfl) hr dX7_is_25
  · have hf := zpos hq hf
    refine g_aload_n X 0 dX7_is_8 rfl ?_
    refine g_get X zf7 hk1 10 (by decide) w_f_RX7_51 rfl rfl dX7_is_9 ?_
    refine g_aload_n X 0 dX7_is_12 rfl ?_
    refine g_get X zf7 hk1 9 (by decide) w_f_RX7_68 rfl rfl dX7_is_13 ?_
    refine g_isub X dX7_is_16 ?_
    refine g_aload_n X 1 dX7_is_17 rfl ?_
    obtain ⟨v3, h2, hch2, hf⟩ := zc2_e hf
    refine g_callK X 0 (zite hch2).1 (sJ0_length_8abf5 hch2) ydJ0_length_8abf5 w_ml_RX7_77 w_instanceMethod_J0_length_8abf5 w_sel_J0_length_8abf5 w_ini_RJ0 w_code_J0_length_8abf5 (by decide) rfl (st := [.int ((zI h r0 10) - (zI h r0 9))]) rfl rfl (Nat.le_of_ble_eq_true rfl) dX7_is_18 ?_
    refine g_icmp_eq X 26 dX7_is_21 (by decide) (fun hq => ?_) (fun hq => ?_)
    · have hf := zpos hq hf
      refine g_iconst X (v := 0) dX7_is_26 (by decide) ?_
      refine g_istore_n X [(2, .int ((0 : Int32))), (0, .ref (base + r0)), (1, .ref (sA s1))] dX7_is_27 (by decide) rfl ?_
      refine g_sub [1, 2, 0] rfl ?_
      obtain ⟨qq, hlp, hf⟩ := zbd hf
      refine lp_snd (body := (fun q : Int32 × Zh => bX7_is_28 h r0 s1 q.1 q.2)) (P := (fun q : Int32 × Zh => zG p l e { frames := 4, cells := 0, slots := 0, locals := 85 } s m args below meth c (MQ below (zQ D cA base h hE (some (.int rE))) args s 0 0 (zA base)) 3 D cA base h 28 [(0, .ref (base + r0)), (1, .ref (sA s1)), (2, .int q.1)] [] q.2)) (E := (fun (en : Nat) (q : Int32 × Zh) => if en = 1 then zG p l e { frames := 4, cells := 0, slots := 0, locals := 85 } s m args below meth c (MQ below (zQ D cA base h hE (some (.int rE))) args s 0 0 (zA base)) 3 D cA base h 55 [] [] q.2 else zG p l e { frames := 4, cells := 0, slots := 0, locals := 85 } s m args below meth c (MQ below (zQ D cA base h hE (some (.int rE))) args s 0 0 (zA base)) 3 D cA base h 63 [] [] q.2)) ?_ zB ((0 : Int32), h2) qq.1 qq.2 hlp ?_
      · intro q e_28 q_28 hf hc0 hc1
        obtain ⟨x2_28, h_28⟩ := q
        have hf : bX7_is_28 h r0 s1 x2_28 h_28 = some (e_28, q_28) := hf
        unfold bX7_is_28 at hf
        show zG p l e { frames := 4, cells := 0, slots := 0, locals := 85 } s m args below meth c (MQ below (zQ D cA base h hE (some (.int rE))) args s 0 0 (zA base)) 3 D cA base h 28 [(0, .ref (base + r0)), (1, .ref (sA s1)), (2, .int x2_28)] [] h_28
        refine g_iload_n X 2 dX7_is_28 rfl ?_
        refine g_aload_n X 1 dX7_is_29 rfl ?_
        obtain ⟨v5, h4, hch4, hf⟩ := zc2_e hf
        refine g_callK X 0 (zite hch4).1 (sJ0_length_8abf5 hch4) ydJ0_length_8abf5 w_ml_RX7_77 w_instanceMethod_J0_length_8abf5 w_sel_J0_length_8abf5 w_ini_RJ0 w_code_J0_length_8abf5 (by decide) rfl (st := [.int x2_28]) rfl rfl (Nat.le_of_ble_eq_true rfl) dX7_is_30 ?_
        refine g_icmp_ge X 63 dX7_is_33 (by decide) (fun hq => ?_) (fun hq => ?_)
        · have hf := zpos hq hf
          cases hf
          have hc1 := hc1 (by decide)
          exact g_sub [] rfl (zun_n (by decide) hc1)
        · have hf := zneg hq hf
          refine g_aload_n X 0 dX7_is_36 rfl ?_
          obtain ⟨r_6, hr_6, hf⟩ := zbd hf
          refine g_get X zf7 hk1 2 (by decide) w_f_RX7_9 rfl (zfv_r hr_6 rfl) dX7_is_37 ?_
          refine g_aload_n X 0 dX7_is_40 rfl ?_
          refine g_get X zf7 hk1 9 (by decide) w_f_RX7_68 rfl rfl dX7_is_41 ?_
          refine g_iload_n X 2 dX7_is_44 rfl ?_
          refine g_iadd X dX7_is_45 ?_
          obtain ⟨hk7, hf⟩ := zite hf
          obtain ⟨hi8, hf⟩ := zite hf
          refine g_bald X hk7 hi8 dX7_is_46 ?_
          refine g_aload_n X 1 dX7_is_47 rfl ?_
          refine g_iload_n X 2 dX7_is_48 rfl ?_
          obtain ⟨v10, h9, hch9, hf⟩ := zc2_e hf
          refine g_callK X 1 (zite hch9).1 (sJ0_charAt_5068e hch9) ydJ0_charAt_5068e w_ml_RX7_83 w_instanceMethod_J0_charAt_5068e w_sel_J0_charAt_5068e w_ini_RJ0 w_code_J0_charAt_5068e (by decide) rfl (st := [.int (zI h4 r_6 ((zI h4 r0 9) + x2_28).toNatClampNeg)]) rfl rfl (Nat.le_of_ble_eq_true rfl) dX7_is_49 ?_
          refine g_icmp_eq X 57 dX7_is_52 (by decide) (fun hq => ?_) (fun hq => ?_)
          · have hf := zpos hq hf
            obtain ⟨y11, ey11⟩ : ∃ y : Int32, y = x2_28 + (1 : Int32) := ⟨_, rfl⟩
            have hf := zlet_n ey11 hf
            refine g_iinc X (j := 2) [(2, .int y11), (0, .ref (base + r0)), (1, .ref (sA s1))] dX7_is_57 rfl (by rw [ey11]; rfl) (by decide) rfl ?_
            refine g_goto X 28 dX7_is_60 (by decide) ?_
            cases hf
            exact g_sub [1, 2, 0] rfl (hc0 rfl)
          · have hf := zneg hq hf
            cases hf
            have hc1 := hc1 (by decide)
            exact g_sub [] rfl (zun_p rfl hc1)
      · obtain ⟨ee, x2_k28, h_k28⟩ := qq
        have hf : kX7_is_28 h ee x2_k28 h_k28 = some (rE, hE) := hf
        unfold kX7_is_28 at hf
        by_cases hee0 : ee = 1
        · have hf := zpos hee0 hf
          refine zifp hee0 ?_
          show zG p l e { frames := 4, cells := 0, slots := 0, locals := 85 } s m args below meth c (MQ below (zQ D cA base h hE (some (.int rE))) args s 0 0 (zA base)) 3 D cA base h 55 [] [] h_k28
          refine g_iconst X (v := 0) dX7_is_55 (by decide) ?_
          obtain ⟨rfl, rfl⟩ := zsm hf
          exact g_zret X (Or.inl rfl) hr dX7_is_56
        have hf := zneg hee0 hf
        refine zifn hee0 ?_
        show zG p l e { frames := 4, cells := 0, slots := 0, locals := 85 } s m args below meth c (MQ below (zQ D cA base h hE (some (.int rE))) args s 0 0 (zA base)) 3 D cA base h 63 [] [] h_k28
        refine g_iconst X (v := 1) dX7_is_63 (by decide) ?_
        obtain ⟨rfl, rfl⟩ := zsm hf
        exact g_zret X (Or.inr rfl) hr dX7_is_64
    · have hf := zneg hq hf
      refine g_iconst X (v := 0) dX7_is_24 (by decide) ?_
      obtain ⟨rfl, rfl⟩ := zsm hf
      exact g_zret X (Or.inl rfl) hr dX7_is_25

set_option maxHeartbeats 4000000 in
set_option maxRecDepth 100000 in
theorem sX7_passWhole {l : Launch} {D : va_G} {cA : Nat → ClassId} {base : Nat} {sA : Nat → Nat} {r0 : Nat} {s1 : Nat} {x2 : Int32} {x3 : Int32} {h hE : Zh} {rE : Int32} (hf : fX7_passWhole r0 s1 x2 x3 h = some (rE, hE)) : zC l yX7_passWhole cX7_passWhole 5 (some .int) 5 107 D cA base sA [.ref (base + r0), .ref (sA s1), .int x2, .int x3] h (some (.int rE)) hE := by
  refine g_entry RX7 (by decide) rfl (Nat.le_of_ble_eq_true rfl) ?_
  intro p e s m args below meth c X hr
  unfold fX7_passWhole at hf
  have hf := zlet_n (x := h) rfl hf
  show zG p l e { frames := 5, cells := 0, slots := 0, locals := 107 } s m args below meth c (MQ below (zQ D cA base h hE (some (.int rE))) args s 0 0 (zA base)) 5 D cA base h 0 [(0, .ref (base + r0)), (1, .ref (sA s1)), (2, .int x2), (3, .int x3)] [] h
  refine g_aload_n X 0 dX7_passWhole_0 rfl ?_
  refine g_aload_n X 1 dX7_passWhole_1 rfl ?_
  obtain ⟨hk1, hf⟩ := zite hf
  obtain ⟨v3, h2, hch2, hf⟩ := zc2_e hf
  refine g_callV X 1 (sX7_is hch2) zf7 hk1 ydX7_is w_ml_RX7_87 w_instanceMethod_X7_is w_sel_X7_is w_ini_RX7 w_code_X7_is (by decide) rfl (st := []) rfl rfl (Nat.le_of_ble_eq_true rfl) dX7_passWhole_2 ?_
  refine g_if_ne X 16 dX7_passWhole_5 (by decide) (fun hq => ?_) (fun hq => ?_)
  · have hf := zneg hq hf
    refine g_aload_n X 0 dX7_passWhole_16 rfl ?_
    obtain ⟨h4, hch4, hf⟩ := zbd hf
    refine g_callV X 0 (sX7_step hch4) zf7 hk1 ydX7_step w_ml_RX7_54 w_instanceMethod_X7_step w_sel_X7_step w_ini_RX7 w_code_X7_step (by decide) rfl (st := []) rfl rfl (Nat.le_of_ble_eq_true rfl) dX7_passWhole_17 ?_
    refine g_aload_n X 0 dX7_passWhole_20 rfl ?_
    refine g_iload_n X 2 dX7_passWhole_21 rfl ?_
    refine g_iload_n X 3 dX7_passWhole_22 rfl ?_
    obtain ⟨v6, h5, hch5, hf⟩ := zc2_e hf
    refine g_callV X 2 (sX7_isWhole hch5) zf7 hk1 ydX7_isWhole w_ml_RX7_91 w_instanceMethod_X7_isWhole w_sel_X7_isWhole w_ini_RX7 w_code_X7_isWhole (by decide) rfl (st := []) rfl rfl (Nat.le_of_ble_eq_true rfl) dX7_passWhole_23 ?_
    refine g_if_ne X 31 dX7_passWhole_26 (by decide) (fun hq => ?_) (fun hq => ?_)
    · have hf := zneg hq hf
      refine g_aload_n X 0 dX7_passWhole_31 rfl ?_
      refine g_get X zf7 hk1 11 (by decide) w_f_RX7_74 rfl rfl dX7_passWhole_32 ?_
      refine g_topi (fun y7 ey7 => ?_)
      have hf := zlet_n ey7 hf
      refine g_istore X [(4, .int y7), (0, .ref (base + r0)), (1, .ref (sA s1)), (2, .int x2), (3, .int x3)] dX7_passWhole_35 (by decide) rfl ?_
      refine g_aload_n X 1 dX7_passWhole_37 rfl ?_
      obtain ⟨h8, hch8, hf⟩ := zbd hf
      refine g_callV X 0 (sX7_step hch8) zf7 hk1 ydX7_step w_ml_RX7_54 w_instanceMethod_X7_step w_sel_X7_step w_ini_RX7 w_code_X7_step (by decide) rfl (st := []) rfl rfl (Nat.le_of_ble_eq_true rfl) dX7_passWhole_38 ?_
      refine g_iload X 0 dX7_passWhole_41 rfl ?_
      obtain ⟨rfl, rfl⟩ := zsm hf
      exact g_iret X hr dX7_passWhole_43
    · have hf := zpos hq hf
      refine g_iconst X (v := -1) dX7_passWhole_29 (by decide) ?_
      obtain ⟨rfl, rfl⟩ := zsm hf
      exact g_iret X hr dX7_passWhole_30
  · have hf := zpos hq hf
    refine g_aload_n X 0 dX7_passWhole_8 rfl ?_
    refine g_iconst X (v := 1) dX7_passWhole_9 (by decide) ?_
    obtain ⟨v10, h9, hch9, hf⟩ := zc2_e hf
    refine g_callV X 1 (sX7_fail hch9) zf7 hk1 ydX7_fail w_ml_RX7_64 w_instanceMethod_X7_fail w_sel_X7_fail w_ini_RX7 w_code_X7_fail (by decide) rfl (st := []) rfl rfl (Nat.le_of_ble_eq_true rfl) dX7_passWhole_10 ?_
    refine g_pop X dX7_passWhole_13 rfl ?_
    refine g_iconst X (v := -1) dX7_passWhole_14 (by decide) ?_
    obtain ⟨rfl, rfl⟩ := zsm hf
    exact g_iret X hr dX7_passWhole_15

set_option maxHeartbeats 4000000 in
set_option maxRecDepth 100000 in
theorem sX7_pass {l : Launch} {D : va_G} {cA : Nat → ClassId} {base : Nat} {sA : Nat → Nat} {r0 : Nat} {s1 : Nat} {h hE : Zh} {rE : Int32} (hf : fX7_pass r0 s1 h = some (rE, hE)) : zC l yX7_pass cX7_pass 2 (some .boolean) 5 107 D cA base sA [.ref (base + r0), .ref (sA s1)] h (some (.int rE)) hE := by
  refine g_entry RX7 (by decide) rfl (Nat.le_of_ble_eq_true rfl) ?_
  intro p e s m args below meth c X hr
  unfold fX7_pass at hf
  have hf := zlet_n (x := h) rfl hf
  show zG p l e { frames := 5, cells := 0, slots := 0, locals := 107 } s m args below meth c (MQ below (zQ D cA base h hE (some (.int rE))) args s 0 0 (zA base)) 2 D cA base h 0 [(0, .ref (base + r0)), (1, .ref (sA s1))] [] h
  refine g_aload_n X 0 dX7_pass_0 rfl ?_
  refine g_aload_n X 1 dX7_pass_1 rfl ?_
  obtain ⟨hk1, hf⟩ := zite hf
  obtain ⟨v3, h2, hch2, hf⟩ := zc2_e hf
  refine g_callV X 1 (sX7_is hch2) zf7 hk1 ydX7_is w_ml_RX7_87 w_instanceMethod_X7_is w_sel_X7_is w_ini_RX7 w_code_X7_is (by decide) rfl (st := []) rfl rfl (Nat.le_of_ble_eq_true rfl) dX7_pass_2 ?_
  refine g_if_ne X 14 dX7_pass_5 (by decide) (fun hq => ?_) (fun hq => ?_)
  · have hf := zneg hq hf
    refine g_aload_n X 0 dX7_pass_14 rfl ?_
    obtain ⟨h4, hch4, hf⟩ := zbd hf
    refine g_callV X 0 (sX7_step hch4) zf7 hk1 ydX7_step w_ml_RX7_54 w_instanceMethod_X7_step w_sel_X7_step w_ini_RX7 w_code_X7_step (by decide) rfl (st := []) rfl rfl (Nat.le_of_ble_eq_true rfl) dX7_pass_15 ?_
    refine g_iconst X (v := 1) dX7_pass_18 (by decide) ?_
    obtain ⟨rfl, rfl⟩ := zsm hf
    exact g_zret X (Or.inr rfl) hr dX7_pass_19
  · have hf := zpos hq hf
    refine g_aload_n X 0 dX7_pass_8 rfl ?_
    refine g_iconst X (v := 1) dX7_pass_9 (by decide) ?_
    obtain ⟨v6, h5, hch5, hf⟩ := zc2_e hf
    refine g_callV X 1 (sX7_fail hch5) zf7 hk1 ydX7_fail w_ml_RX7_64 w_instanceMethod_X7_fail w_sel_X7_fail w_ini_RX7 w_code_X7_fail (by decide) rfl (st := []) rfl rfl (Nat.le_of_ble_eq_true rfl) dX7_pass_10 ?_
    obtain ⟨hb7, hf⟩ := zite hf
    obtain ⟨rfl, rfl⟩ := zsm hf
    exact g_zret X hb7 hr dX7_pass_13

set_option maxHeartbeats 4000000 in
set_option maxRecDepth 100000 in
theorem sX7_readSuits {l : Launch} {D : va_G} {cA : Nat → ClassId} {base : Nat} {sA : Nat → Nat} {r0 : Nat} {r1 : Nat} {h hE : Zh} {rE : Int32} (hf : fX7_readSuits r0 r1 h = some (rE, hE)) : zC l yX7_readSuits cX7_readSuits 2 (some .boolean) 6 128 D cA base sA [.ref (base + r0), .ref (base + r1)] h (some (.int rE)) hE := by
  refine g_entry RX7 (by decide) rfl (Nat.le_of_ble_eq_true rfl) ?_
  intro p e s m args below meth c X hr
  unfold fX7_readSuits at hf
  have hf := zlet_n (x := h) rfl hf
  show zG p l e { frames := 6, cells := 0, slots := 0, locals := 128 } s m args below meth c (MQ below (zQ D cA base h hE (some (.int rE))) args s 0 0 (zA base)) 2 D cA base h 0 [(0, .ref (base + r0)), (1, .ref (base + r1))] [] h
  refine g_aload_n X 0 dX7_readSuits_0 rfl ?_
  refine g_ldcS X (i := 2) (tx := "suits") (by decide) dX7_readSuits_1 ?_
  obtain ⟨hk1, hf⟩ := zite hf
  obtain ⟨v3, h2, hch2, hf⟩ := zc2_e hf
  refine g_callV X 1 (sX7_pass hch2) zf7 hk1 ydX7_pass w_ml_RX7_150 w_instanceMethod_X7_pass w_sel_X7_pass w_ini_RX7 w_code_X7_pass (by decide) rfl (st := []) rfl rfl (Nat.le_of_ble_eq_true rfl) dX7_readSuits_3 ?_
  refine g_if_eq X 18 dX7_readSuits_6 (by decide) (fun hq => ?_) (fun hq => ?_)
  · have hf := zpos hq hf
    refine g_iconst X (v := 0) dX7_readSuits_18 (by decide) ?_
    obtain ⟨rfl, rfl⟩ := zsm hf
    exact g_zret X (Or.inl rfl) hr dX7_readSuits_19
  · have hf := zneg hq hf
    refine g_aload_n X 0 dX7_readSuits_9 rfl ?_
    refine g_iconst X (v := 1) dX7_readSuits_10 (by decide) ?_
    refine g_iconst X (v := 4) dX7_readSuits_11 (by decide) ?_
    obtain ⟨v5, h4, hch4, hf⟩ := zc2_e hf
    refine g_callV X 2 (sX7_isWhole hch4) zf7 hk1 ydX7_isWhole w_ml_RX7_91 w_instanceMethod_X7_isWhole w_sel_X7_isWhole w_ini_RX7 w_code_X7_isWhole (by decide) rfl (st := []) rfl rfl (Nat.le_of_ble_eq_true rfl) dX7_readSuits_12 ?_
    refine g_if_ne X 20 dX7_readSuits_15 (by decide) (fun hq => ?_) (fun hq => ?_)
    · have hf := zneg hq hf
      refine g_aload_n X 0 dX7_readSuits_20 rfl ?_
      refine g_get X zf7 hk1 11 (by decide) w_f_RX7_74 rfl rfl dX7_readSuits_21 ?_
      refine g_iconst X (v := 1) dX7_readSuits_24 (by decide) ?_
      refine g_icmp_lt X 40 dX7_readSuits_25 (by decide) (fun hq => ?_) (fun hq => ?_)
      · have hf := zpos hq hf
        refine g_aload_n X 0 dX7_readSuits_40 rfl ?_
        refine g_iconst X (v := 4) dX7_readSuits_41 (by decide) ?_
        obtain ⟨v7, h6, hch6, hf⟩ := zc2_e hf
        refine g_callV X 1 (sX7_fail hch6) zf7 hk1 ydX7_fail w_ml_RX7_64 w_instanceMethod_X7_fail w_sel_X7_fail w_ini_RX7 w_code_X7_fail (by decide) rfl (st := []) rfl rfl (Nat.le_of_ble_eq_true rfl) dX7_readSuits_42 ?_
        obtain ⟨hb8, hf⟩ := zite hf
        obtain ⟨rfl, rfl⟩ := zsm hf
        exact g_zret X hb8 hr dX7_readSuits_45
      · have hf := zneg hq hf
        refine g_aload_n X 1 dX7_readSuits_28 rfl ?_
        obtain ⟨hk9, hf⟩ := zite hf
        refine g_get X zf0 hk9 0 (by decide) w_f_RX7_124 rfl rfl dX7_readSuits_29 ?_
        refine g_aload_n X 0 dX7_readSuits_32 rfl ?_
        refine g_get X zf7 hk1 11 (by decide) w_f_RX7_74 rfl rfl dX7_readSuits_33 ?_
        obtain ⟨hn10, hf⟩ := zite hf
        refine g_irem X hn10 dX7_readSuits_36 ?_
        refine g_if_eq X 46 dX7_readSuits_37 (by decide) (fun hq => ?_) (fun hq => ?_)
        · have hf := zpos hq hf
          refine g_aload_n X 1 dX7_readSuits_46 rfl ?_
          refine g_aload_n X 0 dX7_readSuits_47 rfl ?_
          refine g_get X zf7 hk1 11 (by decide) w_f_RX7_74 rfl rfl dX7_readSuits_48 ?_
          refine g_putI X zf0 hk9 1 (by decide) w_f_RX7_153 rfl rfl rfl dX7_readSuits_51 ?_
          refine g_hp (fun h11 eh11 => ?_)
          have hf := zlet_n eh11 hf
          refine g_aload_n X 0 dX7_readSuits_54 rfl ?_
          obtain ⟨h12, hch12, hf⟩ := zbd hf
          refine g_callV X 0 (sX7_step hch12) zf7 hk1 ydX7_step w_ml_RX7_54 w_instanceMethod_X7_step w_sel_X7_step w_ini_RX7 w_code_X7_step (by decide) rfl (st := []) rfl rfl (Nat.le_of_ble_eq_true rfl) dX7_readSuits_55 ?_
          refine g_iconst X (v := 1) dX7_readSuits_58 (by decide) ?_
          obtain ⟨rfl, rfl⟩ := zsm hf
          exact g_zret X (Or.inr rfl) hr dX7_readSuits_59
        · have hf := zneg hq hf
          refine g_aload_n X 0 dX7_readSuits_40 rfl ?_
          refine g_iconst X (v := 4) dX7_readSuits_41 (by decide) ?_
          obtain ⟨v14, h13, hch13, hf⟩ := zc2_e hf
          refine g_callV X 1 (sX7_fail hch13) zf7 hk1 ydX7_fail w_ml_RX7_64 w_instanceMethod_X7_fail w_sel_X7_fail w_ini_RX7 w_code_X7_fail (by decide) rfl (st := []) rfl rfl (Nat.le_of_ble_eq_true rfl) dX7_readSuits_42 ?_
          obtain ⟨hb15, hf⟩ := zite hf
          obtain ⟨rfl, rfl⟩ := zsm hf
          exact g_zret X hb15 hr dX7_readSuits_45
    · have hf := zpos hq hf
      refine g_iconst X (v := 0) dX7_readSuits_18 (by decide) ?_
      obtain ⟨rfl, rfl⟩ := zsm hf
      exact g_zret X (Or.inl rfl) hr dX7_readSuits_19

set_option maxHeartbeats 4000000 in
set_option maxRecDepth 100000 in
theorem sX7_readWay {l : Launch} {D : va_G} {cA : Nat → ClassId} {base : Nat} {sA : Nat → Nat} {r0 : Nat} {r1 : Nat} {h hE : Zh} {rE : Int32} (hf : fX7_readWay r0 r1 h = some (rE, hE)) : zC l yX7_readWay cX7_readWay 2 (some .boolean) 5 107 D cA base sA [.ref (base + r0), .ref (base + r1)] h (some (.int rE)) hE := by
  refine g_entry RX7 (by decide) rfl (Nat.le_of_ble_eq_true rfl) ?_
  intro p e s m args below meth c X hr
  unfold fX7_readWay at hf
  have hf := zlet_n (x := h) rfl hf
  show zG p l e { frames := 5, cells := 0, slots := 0, locals := 107 } s m args below meth c (MQ below (zQ D cA base h hE (some (.int rE))) args s 0 0 (zA base)) 2 D cA base h 0 [(0, .ref (base + r0)), (1, .ref (base + r1))] [] h
  refine g_aload_n X 1 dX7_readWay_0 rfl ?_
  refine g_aload_n X 0 dX7_readWay_1 rfl ?_
  refine g_ldcS X (i := 5) (tx := "stranger") (by decide) dX7_readWay_2 ?_
  obtain ⟨hk1, hf⟩ := zite hf
  obtain ⟨v3, h2, hch2, hf⟩ := zc2_e hf
  refine g_callV X 1 (sX7_is hch2) zf7 hk1 ydX7_is w_ml_RX7_87 w_instanceMethod_X7_is w_sel_X7_is w_ini_RX7 w_code_X7_is (by decide) rfl (st := [.ref (base + r1)]) rfl rfl (Nat.le_of_ble_eq_true rfl) dX7_readWay_4 ?_
  obtain ⟨hk4, hf⟩ := zite hf
  obtain ⟨hb6, hf⟩ := zite hf
  refine g_putZ X zf0 hk4 hb6 6 (by decide) w_f_RX7_157 rfl rfl rfl dX7_readWay_7 ?_
  refine g_hp (fun h5 eh5 => ?_)
  have hf := zlet_n eh5 hf
  refine g_aload_n X 1 dX7_readWay_10 rfl ?_
  refine g_get X zf0 hk4 6 (by decide) w_f_RX7_157 rfl rfl dX7_readWay_11 ?_
  have hJ32 : ∀  (h_32 : Zh), jX7_readWay_32 h r0 r1 h_32 = some (rE, hE) → zG p l e { frames := 5, cells := 0, slots := 0, locals := 107 } s m args below meth c (MQ below (zQ D cA base h hE (some (.int rE))) args s 0 0 (zA base)) 2 D cA base h 32 [(0, .ref (base + r0)), (1, .ref (base + r1))] [] h_32 := by
    intro  h_32 hf
    unfold jX7_readWay_32 at hf
    refine g_aload_n X 1 dX7_readWay_32 rfl ?_
    refine g_aload_n X 1 dX7_readWay_33 rfl ?_
    refine g_get X zf0 hk4 0 (by decide) w_f_RX7_124 rfl rfl dX7_readWay_34 ?_
    obtain ⟨v8, h7, hch7, hf⟩ := zc2_e hf
    refine g_callV X 1 (sX0_handsOf hch7) zf0 hk4 ydX0_handsOf w_ml_RX7_161 w_instanceMethod_X0_handsOf w_sel_X0_handsOf w_ini_RX0 w_code_X0_handsOf (by decide) rfl (st := []) rfl rfl (Nat.le_of_ble_eq_true rfl) dX7_readWay_37 ?_
    refine g_ldc2 X w_c_RX7_165 dX7_readWay_40 ?_
    refine g_lcmp X dX7_readWay_43 ?_
    refine g_if_le X 54 dX7_readWay_44 (by decide) (fun hq => ?_) (fun hq => ?_)
    · have hf := zpos hq hf
      refine g_aload_n X 0 dX7_readWay_54 rfl ?_
      obtain ⟨h9, hch9, hf⟩ := zbd hf
      refine g_callV X 0 (sX7_step hch9) zf7 hk1 ydX7_step w_ml_RX7_54 w_instanceMethod_X7_step w_sel_X7_step w_ini_RX7 w_code_X7_step (by decide) rfl (st := []) rfl rfl (Nat.le_of_ble_eq_true rfl) dX7_readWay_55 ?_
      refine g_aload_n X 1 dX7_readWay_58 rfl ?_
      refine g_aload_n X 1 dX7_readWay_59 rfl ?_
      refine g_get X zf0 hk4 6 (by decide) w_f_RX7_157 rfl rfl dX7_readWay_60 ?_
      have hJ80 : ∀ (t0_80 : Int32) (t1_80 : Nat) (h_80 : Zh), jX7_readWay_80 h r0 r1 t0_80 t1_80 h_80 = some (rE, hE) → zG p l e { frames := 5, cells := 0, slots := 0, locals := 107 } s m args below meth c (MQ below (zQ D cA base h hE (some (.int rE))) args s 0 0 (zA base)) 2 D cA base h 80 [(0, .ref (base + r0)), (1, .ref (base + r1))] [.int t0_80, .ref (base + t1_80)] h_80 := by
        intro t0_80 t1_80 h_80 hf
        unfold jX7_readWay_80 at hf
        obtain ⟨hk10, hf⟩ := zite hf
        obtain ⟨hb12, hf⟩ := zite hf
        refine g_putZ X zf0 hk10 hb12 7 (by decide) w_f_RX7_169 rfl rfl rfl dX7_readWay_80 ?_
        refine g_hp (fun h11 eh11 => ?_)
        have hf := zlet_n eh11 hf
        refine g_aload_n X 1 dX7_readWay_83 rfl ?_
        refine g_get X zf0 hk4 7 (by decide) w_f_RX7_169 rfl rfl dX7_readWay_84 ?_
        have hJ94 : ∀  (h_94 : Zh), jX7_readWay_94 h r0 r1 h_94 = some (rE, hE) → zG p l e { frames := 5, cells := 0, slots := 0, locals := 107 } s m args below meth c (MQ below (zQ D cA base h hE (some (.int rE))) args s 0 0 (zA base)) 2 D cA base h 94 [(0, .ref (base + r0)), (1, .ref (base + r1))] [] h_94 := by
          intro  h_94 hf
          unfold jX7_readWay_94 at hf
          refine g_aload_n X 1 dX7_readWay_94 rfl ?_
          refine g_aload_n X 0 dX7_readWay_95 rfl ?_
          refine g_ldcS X (i := 8) (tx := "tilts") (by decide) dX7_readWay_96 ?_
          obtain ⟨v14, h13, hch13, hf⟩ := zc2_e hf
          refine g_callV X 1 (sX7_is hch13) zf7 hk1 ydX7_is w_ml_RX7_87 w_instanceMethod_X7_is w_sel_X7_is w_ini_RX7 w_code_X7_is (by decide) rfl (st := [.ref (base + r1)]) rfl rfl (Nat.le_of_ble_eq_true rfl) dX7_readWay_98 ?_
          obtain ⟨hb16, hf⟩ := zite hf
          refine g_putZ X zf0 hk4 hb16 8 (by decide) w_f_RX7_173 rfl rfl rfl dX7_readWay_101 ?_
          refine g_hp (fun h15 eh15 => ?_)
          have hf := zlet_n eh15 hf
          refine g_aload_n X 1 dX7_readWay_104 rfl ?_
          refine g_get X zf0 hk4 8 (by decide) w_f_RX7_173 rfl rfl dX7_readWay_105 ?_
          refine g_if_eq X 115 dX7_readWay_108 (by decide) (fun hq => ?_) (fun hq => ?_)
          · have hf := zpos hq hf
            refine g_iconst X (v := 1) dX7_readWay_115 (by decide) ?_
            obtain ⟨rfl, rfl⟩ := zsm hf
            exact g_zret X (Or.inr rfl) hr dX7_readWay_116
          · have hf := zneg hq hf
            refine g_aload_n X 0 dX7_readWay_111 rfl ?_
            obtain ⟨h17, hch17, hf⟩ := zbd hf
            refine g_callV X 0 (sX7_step hch17) zf7 hk1 ydX7_step w_ml_RX7_54 w_instanceMethod_X7_step w_sel_X7_step w_ini_RX7 w_code_X7_step (by decide) rfl (st := []) rfl rfl (Nat.le_of_ble_eq_true rfl) dX7_readWay_112 ?_
            refine g_iconst X (v := 1) dX7_readWay_115 (by decide) ?_
            obtain ⟨rfl, rfl⟩ := zsm hf
            exact g_zret X (Or.inr rfl) hr dX7_readWay_116
        refine g_if_eq X 94 dX7_readWay_87 (by decide) (fun hq => ?_) (fun hq => ?_)
        · have hf := zpos hq hf
          refine g_sub [0, 1] rfl ?_
          exact hJ94 _ hf
        · have hf := zneg hq hf
          refine g_aload_n X 0 dX7_readWay_90 rfl ?_
          obtain ⟨h18, hch18, hf⟩ := zbd hf
          refine g_callV X 0 (sX7_step hch18) zf7 hk1 ydX7_step w_ml_RX7_54 w_instanceMethod_X7_step w_sel_X7_step w_ini_RX7 w_code_X7_step (by decide) rfl (st := []) rfl rfl (Nat.le_of_ble_eq_true rfl) dX7_readWay_91 ?_
          refine g_sub [0, 1] rfl ?_
          exact hJ94 _ hf
      have hJ79 : ∀ (t0_79 : Nat) (h_79 : Zh), jX7_readWay_79 h r0 r1 t0_79 h_79 = some (rE, hE) → zG p l e { frames := 5, cells := 0, slots := 0, locals := 107 } s m args below meth c (MQ below (zQ D cA base h hE (some (.int rE))) args s 0 0 (zA base)) 2 D cA base h 79 [(0, .ref (base + r0)), (1, .ref (base + r1))] [.ref (base + t0_79)] h_79 := by
        intro t0_79 h_79 hf
        unfold jX7_readWay_79 at hf
        refine g_iconst X (v := 0) dX7_readWay_79 (by decide) ?_
        refine g_sub [0, 1] rfl ?_
        exact hJ80 _ _ _ hf
      refine g_if_ne X 79 dX7_readWay_63 (by decide) (fun hq => ?_) (fun hq => ?_)
      · have hf := zneg hq hf
        refine g_sub [0, 1] rfl ?_
        exact hJ79 _ _ hf
      · have hf := zpos hq hf
        refine g_aload_n X 0 dX7_readWay_66 rfl ?_
        refine g_ldcS X (i := 7) (tx := "held") (by decide) dX7_readWay_67 ?_
        obtain ⟨v20, h19, hch19, hf⟩ := zc2_e hf
        refine g_callV X 1 (sX7_is hch19) zf7 hk1 ydX7_is w_ml_RX7_87 w_instanceMethod_X7_is w_sel_X7_is w_ini_RX7 w_code_X7_is (by decide) rfl (st := [.ref (base + r1)]) rfl rfl (Nat.le_of_ble_eq_true rfl) dX7_readWay_69 ?_
        refine g_if_eq X 79 dX7_readWay_72 (by decide) (fun hq => ?_) (fun hq => ?_)
        · have hf := zpos hq hf
          refine g_sub [0, 1] rfl ?_
          exact hJ79 _ _ hf
        · have hf := zneg hq hf
          refine g_iconst X (v := 1) dX7_readWay_75 (by decide) ?_
          refine g_goto X 80 dX7_readWay_76 (by decide) ?_
          refine g_sub [0, 1] rfl ?_
          exact hJ80 _ _ _ hf
    · have hf := zneg hq hf
      refine g_aload_n X 0 dX7_readWay_47 rfl ?_
      refine g_bipush X (v := 7) dX7_readWay_48 (by decide) ?_
      obtain ⟨v22, h21, hch21, hf⟩ := zc2_e hf
      refine g_callV X 1 (sX7_fail hch21) zf7 hk1 ydX7_fail w_ml_RX7_64 w_instanceMethod_X7_fail w_sel_X7_fail w_ini_RX7 w_code_X7_fail (by decide) rfl (st := []) rfl rfl (Nat.le_of_ble_eq_true rfl) dX7_readWay_50 ?_
      obtain ⟨hb23, hf⟩ := zite hf
      obtain ⟨rfl, rfl⟩ := zsm hf
      exact g_zret X hb23 hr dX7_readWay_53
  refine g_if_ne X 32 dX7_readWay_14 (by decide) (fun hq => ?_) (fun hq => ?_)
  · have hf := zneg hq hf
    refine g_sub [0, 1] rfl ?_
    exact hJ32 _ hf
  · have hf := zpos hq hf
    refine g_aload_n X 0 dX7_readWay_17 rfl ?_
    refine g_ldcS X (i := 6) (tx := "she") (by decide) dX7_readWay_18 ?_
    obtain ⟨v25, h24, hch24, hf⟩ := zc2_e hf
    refine g_callV X 1 (sX7_is hch24) zf7 hk1 ydX7_is w_ml_RX7_87 w_instanceMethod_X7_is w_sel_X7_is w_ini_RX7 w_code_X7_is (by decide) rfl (st := []) rfl rfl (Nat.le_of_ble_eq_true rfl) dX7_readWay_20 ?_
    refine g_if_ne X 32 dX7_readWay_23 (by decide) (fun hq => ?_) (fun hq => ?_)
    · have hf := zneg hq hf
      refine g_sub [0, 1] rfl ?_
      exact hJ32 _ hf
    · have hf := zpos hq hf
      refine g_aload_n X 0 dX7_readWay_26 rfl ?_
      refine g_iconst X (v := 1) dX7_readWay_27 (by decide) ?_
      obtain ⟨v27, h26, hch26, hf⟩ := zc2_e hf
      refine g_callV X 1 (sX7_fail hch26) zf7 hk1 ydX7_fail w_ml_RX7_64 w_instanceMethod_X7_fail w_sel_X7_fail w_ini_RX7 w_code_X7_fail (by decide) rfl (st := []) rfl rfl (Nat.le_of_ble_eq_true rfl) dX7_readWay_28 ?_
      obtain ⟨hb28, hf⟩ := zite hf
      obtain ⟨rfl, rfl⟩ := zsm hf
      exact g_zret X hb28 hr dX7_readWay_31

set_option maxHeartbeats 4000000 in
set_option maxRecDepth 100000 in
theorem sX7_readTrick {l : Launch} {D : va_G} {cA : Nat → ClassId} {base : Nat} {sA : Nat → Nat} {r0 : Nat} {h hE : Zh} {rE : Int32} (hf : fX7_readTrick r0 h = some (rE, hE)) : zC l yX7_readTrick cX7_readTrick 2 (some .boolean) 7 149 D cA base sA [.ref (base + r0)] h (some (.int rE)) hE := by
  refine g_entry RX7 (by decide) rfl (Nat.le_of_ble_eq_true rfl) ?_
  intro p e s m args below meth c X hr
  unfold fX7_readTrick at hf
  have hf := zlet_n (x := h) rfl hf
  show zG p l e { frames := 7, cells := 0, slots := 0, locals := 149 } s m args below meth c (MQ below (zQ D cA base h hE (some (.int rE))) args s 0 0 (zA base)) 2 D cA base h 0 [(0, .ref (base + r0))] [] h
  refine g_aload_n X 0 dX7_readTrick_0 rfl ?_
  obtain ⟨hk1, hf⟩ := zite hf
  obtain ⟨r_2, hr_2, hf⟩ := zbd hf
  refine g_get X zf7 hk1 4 (by decide) w_f_RX7_18 rfl (zfv_r hr_2 rfl) dX7_readTrick_1 ?_
  obtain ⟨hk3, hf⟩ := zite hf
  refine g_get X zf9 hk3 0 (by decide) w_f_RX7_110 rfl rfl dX7_readTrick_4 ?_
  refine g_if_eq X 16 dX7_readTrick_7 (by decide) (fun hq => ?_) (fun hq => ?_)
  · have hf := zpos hq hf
    refine g_aload_n X 0 dX7_readTrick_16 rfl ?_
    obtain ⟨h4, hch4, hf⟩ := zbd hf
    refine g_callV X 0 (sX7_step hch4) zf7 hk1 ydX7_step w_ml_RX7_54 w_instanceMethod_X7_step w_sel_X7_step w_ini_RX7 w_code_X7_step (by decide) rfl (st := []) rfl rfl (Nat.le_of_ble_eq_true rfl) dX7_readTrick_17 ?_
    refine g_aload_n X 0 dX7_readTrick_20 rfl ?_
    obtain ⟨r_5, hr_5, hf⟩ := zbd hf
    refine g_get X zf7 hk1 4 (by decide) w_f_RX7_18 rfl (zfv_r hr_5 rfl) dX7_readTrick_21 ?_
    obtain ⟨hk6, hf⟩ := zite hf
    obtain ⟨r_7, hr_7, hf⟩ := zbd hf
    refine g_get X zf9 hk6 1 (by decide) w_f_RX7_114 rfl (zfv_r hr_7 rfl) dX7_readTrick_24 ?_
    refine g_astore_n X [(1, .ref (base + r_7)), (0, .ref (base + r0))] dX7_readTrick_27 (by decide) rfl ?_
    refine g_aload_n X 0 dX7_readTrick_28 rfl ?_
    refine g_aload_n X 1 dX7_readTrick_29 rfl ?_
    refine g_ldcS X (i := 1) (tx := "cards") (by decide) dX7_readTrick_30 ?_
    refine g_iconst X (v := 4) dX7_readTrick_32 (by decide) ?_
    refine g_bipush X (v := 12) dX7_readTrick_33 (by decide) ?_
    obtain ⟨v9, h8, hch8, hf⟩ := zc2_e hf
    refine g_callV X 3 (sX7_passWhole hch8) zf7 hk1 ydX7_passWhole w_ml_RX7_120 w_instanceMethod_X7_passWhole w_sel_X7_passWhole w_ini_RX7 w_code_X7_passWhole (by decide) rfl (st := [.ref (base + r_7)]) rfl rfl (Nat.le_of_ble_eq_true rfl) dX7_readTrick_35 ?_
    obtain ⟨hk10, hf⟩ := zite hf
    refine g_putI X zf0 hk10 0 (by decide) w_f_RX7_124 rfl rfl rfl dX7_readTrick_38 ?_
    refine g_hp (fun h11 eh11 => ?_)
    have hf := zlet_n eh11 hf
    refine g_aload_n X 0 dX7_readTrick_41 rfl ?_
    refine g_get X zf0 hk10 0 (by decide) w_f_RX7_124 rfl rfl dX7_readTrick_42 ?_
    refine g_if_lt X 56 dX7_readTrick_45 (by decide) (fun hq => ?_) (fun hq => ?_)
    · have hf := zpos hq hf
      refine g_iconst X (v := 0) dX7_readTrick_56 (by decide) ?_
      obtain ⟨rfl, rfl⟩ := zsm hf
      exact g_zret X (Or.inl rfl) hr dX7_readTrick_57
    · have hf := zneg hq hf
      refine g_aload_n X 1 dX7_readTrick_48 rfl ?_
      refine g_aload_n X 0 dX7_readTrick_49 rfl ?_
      obtain ⟨v13, h12, hch12, hf⟩ := zc2_e hf
      refine g_callV X 1 (sX7_readSuits hch12) zf7 hk1 ydX7_readSuits w_ml_RX7_128 w_instanceMethod_X7_readSuits w_sel_X7_readSuits w_ini_RX7 w_code_X7_readSuits (by decide) rfl (st := []) rfl rfl (Nat.le_of_ble_eq_true rfl) dX7_readTrick_50 ?_
      refine g_if_ne X 58 dX7_readTrick_53 (by decide) (fun hq => ?_) (fun hq => ?_)
      · have hf := zneg hq hf
        refine g_aload_n X 0 dX7_readTrick_58 rfl ?_
        refine g_aload_n X 1 dX7_readTrick_59 rfl ?_
        refine g_ldcS X (i := 3) (tx := "hand") (by decide) dX7_readTrick_60 ?_
        refine g_iconst X (v := 2) dX7_readTrick_62 (by decide) ?_
        refine g_iconst X (v := 5) dX7_readTrick_63 (by decide) ?_
        refine g_aload_n X 0 dX7_readTrick_64 rfl ?_
        refine g_get X zf0 hk10 0 (by decide) w_f_RX7_124 rfl rfl dX7_readTrick_65 ?_
        refine g_mmin X w_m1_RX7_32 w_m2_mmin w_m3 w_m4_mmin (Nat.le_of_ble_eq_true rfl) (Nat.le_of_ble_eq_true rfl) dX7_readTrick_68 ?_
        obtain ⟨v15, h14, hch14, hf⟩ := zc2_e hf
        refine g_callV X 3 (sX7_passWhole hch14) zf7 hk1 ydX7_passWhole w_ml_RX7_120 w_instanceMethod_X7_passWhole w_sel_X7_passWhole w_ini_RX7 w_code_X7_passWhole (by decide) rfl (st := [.ref (base + r_7)]) rfl rfl (Nat.le_of_ble_eq_true rfl) dX7_readTrick_71 ?_
        refine g_putI X zf0 hk10 3 (by decide) w_f_RX7_134 rfl rfl rfl dX7_readTrick_74 ?_
        refine g_hp (fun h16 eh16 => ?_)
        have hf := zlet_n eh16 hf
        refine g_aload_n X 0 dX7_readTrick_77 rfl ?_
        refine g_get X zf0 hk10 3 (by decide) w_f_RX7_134 rfl rfl dX7_readTrick_78 ?_
        refine g_if_ge X 86 dX7_readTrick_81 (by decide) (fun hq => ?_) (fun hq => ?_)
        · have hf := zpos hq hf
          refine g_aload_n X 0 dX7_readTrick_86 rfl ?_
          refine g_aload_n X 1 dX7_readTrick_87 rfl ?_
          refine g_ldcS X (i := 4) (tx := "kept") (by decide) dX7_readTrick_88 ?_
          refine g_iconst X (v := 1) dX7_readTrick_90 (by decide) ?_
          refine g_iconst X (v := 2) dX7_readTrick_91 (by decide) ?_
          refine g_aload_n X 0 dX7_readTrick_92 rfl ?_
          refine g_get X zf0 hk10 3 (by decide) w_f_RX7_134 rfl rfl dX7_readTrick_93 ?_
          refine g_iconst X (v := 1) dX7_readTrick_96 (by decide) ?_
          refine g_isub X dX7_readTrick_97 ?_
          refine g_mmin X w_m1_RX7_32 w_m2_mmin w_m3 w_m4_mmin (Nat.le_of_ble_eq_true rfl) (Nat.le_of_ble_eq_true rfl) dX7_readTrick_98 ?_
          obtain ⟨v18, h17, hch17, hf⟩ := zc2_e hf
          refine g_callV X 3 (sX7_passWhole hch17) zf7 hk1 ydX7_passWhole w_ml_RX7_120 w_instanceMethod_X7_passWhole w_sel_X7_passWhole w_ini_RX7 w_code_X7_passWhole (by decide) rfl (st := [.ref (base + r_7)]) rfl rfl (Nat.le_of_ble_eq_true rfl) dX7_readTrick_101 ?_
          refine g_putI X zf0 hk10 4 (by decide) w_f_RX7_139 rfl rfl rfl dX7_readTrick_104 ?_
          refine g_hp (fun h19 eh19 => ?_)
          have hf := zlet_n eh19 hf
          refine g_aload_n X 0 dX7_readTrick_107 rfl ?_
          refine g_get X zf0 hk10 4 (by decide) w_f_RX7_139 rfl rfl dX7_readTrick_108 ?_
          refine g_if_lt X 122 dX7_readTrick_111 (by decide) (fun hq => ?_) (fun hq => ?_)
          · have hf := zpos hq hf
            refine g_iconst X (v := 0) dX7_readTrick_122 (by decide) ?_
            obtain ⟨rfl, rfl⟩ := zsm hf
            exact g_zret X (Or.inl rfl) hr dX7_readTrick_123
          · have hf := zneg hq hf
            refine g_aload_n X 1 dX7_readTrick_114 rfl ?_
            refine g_aload_n X 0 dX7_readTrick_115 rfl ?_
            obtain ⟨v21, h20, hch20, hf⟩ := zc2_e hf
            refine g_callV X 1 (sX7_readWay hch20) zf7 hk1 ydX7_readWay w_ml_RX7_142 w_instanceMethod_X7_readWay w_sel_X7_readWay w_ini_RX7 w_code_X7_readWay (by decide) rfl (st := []) rfl rfl (Nat.le_of_ble_eq_true rfl) dX7_readTrick_116 ?_
            refine g_if_ne X 124 dX7_readTrick_119 (by decide) (fun hq => ?_) (fun hq => ?_)
            · have hf := zneg hq hf
              refine g_aload_n X 0 dX7_readTrick_124 rfl ?_
              obtain ⟨h22, hch22, hf⟩ := zbd hf
              refine g_callV X 0 (sX0_settle hch22) zf0 hk10 ydX0_settle w_ml_RX7_145 w_instanceMethod_X0_settle w_sel_X0_settle w_ini_RX0 w_code_X0_settle (by decide) rfl (st := []) rfl rfl (Nat.le_of_ble_eq_true rfl) dX7_readTrick_125 ?_
              refine g_aload_n X 1 dX7_readTrick_128 rfl ?_
              obtain ⟨r_23, hr_23, hf⟩ := zbd hf
              refine g_get X zf7 hk1 4 (by decide) w_f_RX7_18 rfl (zfv_r hr_23 rfl) dX7_readTrick_129 ?_
              refine g_iconst X (v := 1) dX7_readTrick_132 (by decide) ?_
              obtain ⟨hk24, hf⟩ := zite hf
              refine g_putZ X zf9 hk24 (Or.inr rfl) 0 (by decide) w_f_RX7_110 rfl rfl rfl dX7_readTrick_133 ?_
              refine g_hp (fun h25 eh25 => ?_)
              have hf := zlet_n eh25 hf
              refine g_iconst X (v := 1) dX7_readTrick_136 (by decide) ?_
              obtain ⟨rfl, rfl⟩ := zsm hf
              exact g_zret X (Or.inr rfl) hr dX7_readTrick_137
            · have hf := zpos hq hf
              refine g_iconst X (v := 0) dX7_readTrick_122 (by decide) ?_
              obtain ⟨rfl, rfl⟩ := zsm hf
              exact g_zret X (Or.inl rfl) hr dX7_readTrick_123
        · have hf := zneg hq hf
          refine g_iconst X (v := 0) dX7_readTrick_84 (by decide) ?_
          obtain ⟨rfl, rfl⟩ := zsm hf
          exact g_zret X (Or.inl rfl) hr dX7_readTrick_85
      · have hf := zpos hq hf
        refine g_iconst X (v := 0) dX7_readTrick_56 (by decide) ?_
        obtain ⟨rfl, rfl⟩ := zsm hf
        exact g_zret X (Or.inl rfl) hr dX7_readTrick_57
  · have hf := zneg hq hf
    refine g_aload_n X 0 dX7_readTrick_10 rfl ?_
    refine g_iconst X (v := 3) dX7_readTrick_11 (by decide) ?_
    obtain ⟨v27, h26, hch26, hf⟩ := zc2_e hf
    refine g_callV X 1 (sX7_fail hch26) zf7 hk1 ydX7_fail w_ml_RX7_64 w_instanceMethod_X7_fail w_sel_X7_fail w_ini_RX7 w_code_X7_fail (by decide) rfl (st := []) rfl rfl (Nat.le_of_ble_eq_true rfl) dX7_readTrick_12 ?_
    obtain ⟨hb28, hf⟩ := zite hf
    obtain ⟨rfl, rfl⟩ := zsm hf
    exact g_zret X hb28 hr dX7_readTrick_15

set_option maxHeartbeats 4000000 in
set_option maxRecDepth 100000 in
theorem sX7_readName {l : Launch} {D : va_G} {cA : Nat → ClassId} {base : Nat} {sA : Nat → Nat} {r0 : Nat} {h hE : Zh} {rE : Int32} (hf : fX7_readName r0 h = some (rE, hE)) : zC l yX7_readName cX7_readName 2 (some .boolean) 5 107 D cA base sA [.ref (base + r0)] h (some (.int rE)) hE := by
  refine g_entry RX7 (by decide) rfl (Nat.le_of_ble_eq_true rfl) ?_
  intro p e s m args below meth c X hr
  unfold fX7_readName at hf
  have hf := zlet_n (x := h) rfl hf
  show zG p l e { frames := 5, cells := 0, slots := 0, locals := 107 } s m args below meth c (MQ below (zQ D cA base h hE (some (.int rE))) args s 0 0 (zA base)) 2 D cA base h 0 [(0, .ref (base + r0))] [] h
  refine g_aload_n X 0 dX7_readName_0 rfl ?_
  obtain ⟨hk1, hf⟩ := zite hf
  refine g_get X zf7 hk1 8 (by decide) w_f_RX7_61 rfl rfl dX7_readName_1 ?_
  refine g_iconst X (v := 1) dX7_readName_4 (by decide) ?_
  refine g_icmp_ne X 53 dX7_readName_5 (by decide) (fun hq => ?_) (fun hq => ?_)
  · have hf := zneg hq hf
    refine g_aload_n X 0 dX7_readName_53 rfl ?_
    refine g_iconst X (v := 1) dX7_readName_54 (by decide) ?_
    obtain ⟨v3, h2, hch2, hf⟩ := zc2_e hf
    refine g_callV X 1 (sX7_fail hch2) zf7 hk1 ydX7_fail w_ml_RX7_64 w_instanceMethod_X7_fail w_sel_X7_fail w_ini_RX7 w_code_X7_fail (by decide) rfl (st := []) rfl rfl (Nat.le_of_ble_eq_true rfl) dX7_readName_55 ?_
    obtain ⟨hb4, hf⟩ := zite hf
    obtain ⟨rfl, rfl⟩ := zsm hf
    exact g_zret X hb4 hr dX7_readName_58
  · have hf := zpos hq hf
    refine g_aload_n X 0 dX7_readName_8 rfl ?_
    refine g_ldcS X (i := 0) (tx := "trick") (by decide) dX7_readName_9 ?_
    obtain ⟨v6, h5, hch5, hf⟩ := zc2_e hf
    refine g_callV X 1 (sX7_is hch5) zf7 hk1 ydX7_is w_ml_RX7_87 w_instanceMethod_X7_is w_sel_X7_is w_ini_RX7 w_code_X7_is (by decide) rfl (st := []) rfl rfl (Nat.le_of_ble_eq_true rfl) dX7_readName_11 ?_
    refine g_if_ne X 53 dX7_readName_14 (by decide) (fun hq => ?_) (fun hq => ?_)
    · have hf := zneg hq hf
      refine g_aload_n X 0 dX7_readName_53 rfl ?_
      refine g_iconst X (v := 1) dX7_readName_54 (by decide) ?_
      obtain ⟨v8, h7, hch7, hf⟩ := zc2_e hf
      refine g_callV X 1 (sX7_fail hch7) zf7 hk1 ydX7_fail w_ml_RX7_64 w_instanceMethod_X7_fail w_sel_X7_fail w_ini_RX7 w_code_X7_fail (by decide) rfl (st := []) rfl rfl (Nat.le_of_ble_eq_true rfl) dX7_readName_55 ?_
      obtain ⟨hb9, hf⟩ := zite hf
      obtain ⟨rfl, rfl⟩ := zsm hf
      exact g_zret X hb9 hr dX7_readName_58
    · have hf := zpos hq hf
      refine g_aload_n X 0 dX7_readName_17 rfl ?_
      refine g_ldcS X (i := 9) (tx := "rule") (by decide) dX7_readName_18 ?_
      obtain ⟨v11, h10, hch10, hf⟩ := zc2_e hf
      refine g_callV X 1 (sX7_is hch10) zf7 hk1 ydX7_is w_ml_RX7_87 w_instanceMethod_X7_is w_sel_X7_is w_ini_RX7 w_code_X7_is (by decide) rfl (st := []) rfl rfl (Nat.le_of_ble_eq_true rfl) dX7_readName_20 ?_
      refine g_if_ne X 53 dX7_readName_23 (by decide) (fun hq => ?_) (fun hq => ?_)
      · have hf := zneg hq hf
        refine g_aload_n X 0 dX7_readName_53 rfl ?_
        refine g_iconst X (v := 1) dX7_readName_54 (by decide) ?_
        obtain ⟨v13, h12, hch12, hf⟩ := zc2_e hf
        refine g_callV X 1 (sX7_fail hch12) zf7 hk1 ydX7_fail w_ml_RX7_64 w_instanceMethod_X7_fail w_sel_X7_fail w_ini_RX7 w_code_X7_fail (by decide) rfl (st := []) rfl rfl (Nat.le_of_ble_eq_true rfl) dX7_readName_55 ?_
        obtain ⟨hb14, hf⟩ := zite hf
        obtain ⟨rfl, rfl⟩ := zsm hf
        exact g_zret X hb14 hr dX7_readName_58
      · have hf := zpos hq hf
        refine g_aload_n X 0 dX7_readName_26 rfl ?_
        refine g_ldcS X (i := 10) (tx := "evening") (by decide) dX7_readName_27 ?_
        obtain ⟨v16, h15, hch15, hf⟩ := zc2_e hf
        refine g_callV X 1 (sX7_is hch15) zf7 hk1 ydX7_is w_ml_RX7_87 w_instanceMethod_X7_is w_sel_X7_is w_ini_RX7 w_code_X7_is (by decide) rfl (st := []) rfl rfl (Nat.le_of_ble_eq_true rfl) dX7_readName_29 ?_
        refine g_if_ne X 53 dX7_readName_32 (by decide) (fun hq => ?_) (fun hq => ?_)
        · have hf := zneg hq hf
          refine g_aload_n X 0 dX7_readName_53 rfl ?_
          refine g_iconst X (v := 1) dX7_readName_54 (by decide) ?_
          obtain ⟨v18, h17, hch17, hf⟩ := zc2_e hf
          refine g_callV X 1 (sX7_fail hch17) zf7 hk1 ydX7_fail w_ml_RX7_64 w_instanceMethod_X7_fail w_sel_X7_fail w_ini_RX7 w_code_X7_fail (by decide) rfl (st := []) rfl rfl (Nat.le_of_ble_eq_true rfl) dX7_readName_55 ?_
          obtain ⟨hb19, hf⟩ := zite hf
          obtain ⟨rfl, rfl⟩ := zsm hf
          exact g_zret X hb19 hr dX7_readName_58
        · have hf := zpos hq hf
          refine g_aload_n X 0 dX7_readName_35 rfl ?_
          refine g_ldcS X (i := 11) (tx := "shows") (by decide) dX7_readName_36 ?_
          obtain ⟨v21, h20, hch20, hf⟩ := zc2_e hf
          refine g_callV X 1 (sX7_is hch20) zf7 hk1 ydX7_is w_ml_RX7_87 w_instanceMethod_X7_is w_sel_X7_is w_ini_RX7 w_code_X7_is (by decide) rfl (st := []) rfl rfl (Nat.le_of_ble_eq_true rfl) dX7_readName_38 ?_
          refine g_if_ne X 53 dX7_readName_41 (by decide) (fun hq => ?_) (fun hq => ?_)
          · have hf := zneg hq hf
            refine g_aload_n X 0 dX7_readName_53 rfl ?_
            refine g_iconst X (v := 1) dX7_readName_54 (by decide) ?_
            obtain ⟨v23, h22, hch22, hf⟩ := zc2_e hf
            refine g_callV X 1 (sX7_fail hch22) zf7 hk1 ydX7_fail w_ml_RX7_64 w_instanceMethod_X7_fail w_sel_X7_fail w_ini_RX7 w_code_X7_fail (by decide) rfl (st := []) rfl rfl (Nat.le_of_ble_eq_true rfl) dX7_readName_55 ?_
            obtain ⟨hb24, hf⟩ := zite hf
            obtain ⟨rfl, rfl⟩ := zsm hf
            exact g_zret X hb24 hr dX7_readName_58
          · have hf := zpos hq hf
            refine g_aload_n X 0 dX7_readName_44 rfl ?_
            refine g_ldcS X (i := 12) (tx := "tilted") (by decide) dX7_readName_45 ?_
            obtain ⟨v26, h25, hch25, hf⟩ := zc2_e hf
            refine g_callV X 1 (sX7_is hch25) zf7 hk1 ydX7_is w_ml_RX7_87 w_instanceMethod_X7_is w_sel_X7_is w_ini_RX7 w_code_X7_is (by decide) rfl (st := []) rfl rfl (Nat.le_of_ble_eq_true rfl) dX7_readName_47 ?_
            refine g_if_eq X 59 dX7_readName_50 (by decide) (fun hq => ?_) (fun hq => ?_)
            · have hf := zpos hq hf
              refine g_iconst X (v := 0) dX7_readName_59 (by decide) ?_
              refine g_istore_n X [(1, .int ((0 : Int32))), (0, .ref (base + r0))] dX7_readName_60 (by decide) rfl ?_
              refine g_sub [1, 0] rfl ?_
              obtain ⟨qq, hlp, hf⟩ := zbd hf
              refine lp_snd (body := (fun q : Int32 × Zh => bX7_readName_61 h r0 q.1 q.2)) (P := (fun q : Int32 × Zh => zG p l e { frames := 5, cells := 0, slots := 0, locals := 107 } s m args below meth c (MQ below (zQ D cA base h hE (some (.int rE))) args s 0 0 (zA base)) 2 D cA base h 61 [(0, .ref (base + r0)), (1, .int q.1)] [] q.2)) (E := (fun (en : Nat) (q : Int32 × Zh) => if en = 1 then zG p l e { frames := 5, cells := 0, slots := 0, locals := 107 } s m args below meth c (MQ below (zQ D cA base h hE (some (.int rE))) args s 0 0 (zA base)) 2 D cA base h 80 [(0, .ref (base + r0))] [] q.2 else zG p l e { frames := 5, cells := 0, slots := 0, locals := 107 } s m args below meth c (MQ below (zQ D cA base h hE (some (.int rE))) args s 0 0 (zA base)) 2 D cA base h 92 [(0, .ref (base + r0))] [] q.2)) ?_ zB ((0 : Int32), h25) qq.1 qq.2 hlp ?_
              · intro q e_61 q_61 hf hc0 hc1
                obtain ⟨x1_61, h_61⟩ := q
                have hf : bX7_readName_61 h r0 x1_61 h_61 = some (e_61, q_61) := hf
                unfold bX7_readName_61 at hf
                show zG p l e { frames := 5, cells := 0, slots := 0, locals := 107 } s m args below meth c (MQ below (zQ D cA base h hE (some (.int rE))) args s 0 0 (zA base)) 2 D cA base h 61 [(0, .ref (base + r0)), (1, .int x1_61)] [] h_61
                refine g_iload_n X 1 dX7_readName_61 rfl ?_
                refine g_aload_n X 0 dX7_readName_62 rfl ?_
                obtain ⟨r_27, hr_27, hf⟩ := zbd hf
                refine g_get X zf7 hk1 4 (by decide) w_f_RX7_18 rfl (zfv_r hr_27 rfl) dX7_readName_63 ?_
                obtain ⟨hk28, hf⟩ := zite hf
                refine g_get X zf9 hk28 3 (by decide) w_f_RX7_175 rfl rfl dX7_readName_66 ?_
                refine g_icmp_ge X 92 dX7_readName_69 (by decide) (fun hq => ?_) (fun hq => ?_)
                · have hf := zpos hq hf
                  cases hf
                  have hc1 := hc1 (by decide)
                  exact g_sub [0] rfl (zun_n (by decide) hc1)
                · have hf := zneg hq hf
                  refine g_aload_n X 0 dX7_readName_72 rfl ?_
                  refine g_iload_n X 1 dX7_readName_73 rfl ?_
                  obtain ⟨v30, h29, hch29, hf⟩ := zc2_e hf
                  refine g_callV X 1 (sX7_isNameOf hch29) zf7 hk1 ydX7_isNameOf w_ml_RX7_191 w_instanceMethod_X7_isNameOf w_sel_X7_isNameOf w_ini_RX7 w_code_X7_isNameOf (by decide) rfl (st := []) rfl rfl (Nat.le_of_ble_eq_true rfl) dX7_readName_74 ?_
                  refine g_if_eq X 86 dX7_readName_77 (by decide) (fun hq => ?_) (fun hq => ?_)
                  · have hf := zpos hq hf
                    obtain ⟨y31, ey31⟩ : ∃ y : Int32, y = x1_61 + (1 : Int32) := ⟨_, rfl⟩
                    have hf := zlet_n ey31 hf
                    refine g_iinc X (j := 1) [(1, .int y31), (0, .ref (base + r0))] dX7_readName_86 rfl (by rw [ey31]; rfl) (by decide) rfl ?_
                    refine g_goto X 61 dX7_readName_89 (by decide) ?_
                    cases hf
                    exact g_sub [1, 0] rfl (hc0 rfl)
                  · have hf := zneg hq hf
                    cases hf
                    have hc1 := hc1 (by decide)
                    exact g_sub [0] rfl (zun_p rfl hc1)
              · obtain ⟨ee, x1_k61, h_k61⟩ := qq
                have hf : kX7_readName_61 h r0 ee x1_k61 h_k61 = some (rE, hE) := hf
                unfold kX7_readName_61 at hf
                by_cases hee0 : ee = 1
                · have hf := zpos hee0 hf
                  refine zifp hee0 ?_
                  show zG p l e { frames := 5, cells := 0, slots := 0, locals := 107 } s m args below meth c (MQ below (zQ D cA base h hE (some (.int rE))) args s 0 0 (zA base)) 2 D cA base h 80 [(0, .ref (base + r0))] [] h_k61
                  refine g_aload_n X 0 dX7_readName_80 rfl ?_
                  refine g_iconst X (v := 3) dX7_readName_81 (by decide) ?_
                  obtain ⟨v33, h32, hch32, hf⟩ := zc2_e hf
                  refine g_callV X 1 (sX7_fail hch32) zf7 hk1 ydX7_fail w_ml_RX7_64 w_instanceMethod_X7_fail w_sel_X7_fail w_ini_RX7 w_code_X7_fail (by decide) rfl (st := []) rfl rfl (Nat.le_of_ble_eq_true rfl) dX7_readName_82 ?_
                  obtain ⟨hb34, hf⟩ := zite hf
                  obtain ⟨rfl, rfl⟩ := zsm hf
                  exact g_zret X hb34 hr dX7_readName_85
                have hf := zneg hee0 hf
                refine zifn hee0 ?_
                show zG p l e { frames := 5, cells := 0, slots := 0, locals := 107 } s m args below meth c (MQ below (zQ D cA base h hE (some (.int rE))) args s 0 0 (zA base)) 2 D cA base h 92 [(0, .ref (base + r0))] [] h_k61
                refine g_aload_n X 0 dX7_readName_92 rfl ?_
                obtain ⟨r_35, hr_35, hf⟩ := zbd hf
                refine g_get X zf7 hk1 5 (by decide) w_f_RX7_22 rfl (zfv_r hr_35 rfl) dX7_readName_93 ?_
                refine g_aload_n X 0 dX7_readName_96 rfl ?_
                obtain ⟨r_36, hr_36, hf⟩ := zbd hf
                refine g_get X zf7 hk1 4 (by decide) w_f_RX7_18 rfl (zfv_r hr_36 rfl) dX7_readName_97 ?_
                obtain ⟨hk37, hf⟩ := zite hf
                refine g_get X zf9 hk37 3 (by decide) w_f_RX7_175 rfl rfl dX7_readName_100 ?_
                refine g_aload_n X 0 dX7_readName_103 rfl ?_
                refine g_get X zf7 hk1 9 (by decide) w_f_RX7_68 rfl rfl dX7_readName_104 ?_
                obtain ⟨hk38, hf⟩ := zite hf
                obtain ⟨hi39, hf⟩ := zite hf
                refine g_iast X hk38 hi39 dX7_readName_107 ?_
                refine g_hp (fun h40 eh40 => ?_)
                have hf := zlet_n eh40 hf
                refine g_aload_n X 0 dX7_readName_108 rfl ?_
                obtain ⟨r_41, hr_41, hf⟩ := zbd hf
                refine g_get X zf7 hk1 6 (by decide) w_f_RX7_26 rfl (zfv_r hr_41 rfl) dX7_readName_109 ?_
                refine g_aload_n X 0 dX7_readName_112 rfl ?_
                obtain ⟨r_42, hr_42, hf⟩ := zbd hf
                refine g_get X zf7 hk1 4 (by decide) w_f_RX7_18 rfl (zfv_r hr_42 rfl) dX7_readName_113 ?_
                obtain ⟨hk43, hf⟩ := zite hf
                refine g_get X zf9 hk43 3 (by decide) w_f_RX7_175 rfl rfl dX7_readName_116 ?_
                refine g_aload_n X 0 dX7_readName_119 rfl ?_
                refine g_get X zf7 hk1 10 (by decide) w_f_RX7_51 rfl rfl dX7_readName_120 ?_
                refine g_aload_n X 0 dX7_readName_123 rfl ?_
                refine g_get X zf7 hk1 9 (by decide) w_f_RX7_68 rfl rfl dX7_readName_124 ?_
                refine g_isub X dX7_readName_127 ?_
                obtain ⟨hk44, hf⟩ := zite hf
                obtain ⟨hi45, hf⟩ := zite hf
                refine g_iast X hk44 hi45 dX7_readName_128 ?_
                refine g_hp (fun h46 eh46 => ?_)
                have hf := zlet_n eh46 hf
                refine g_aload_n X 0 dX7_readName_129 rfl ?_
                obtain ⟨h47, hch47, hf⟩ := zbd hf
                refine g_callV X 0 (sX7_step hch47) zf7 hk1 ydX7_step w_ml_RX7_54 w_instanceMethod_X7_step w_sel_X7_step w_ini_RX7 w_code_X7_step (by decide) rfl (st := []) rfl rfl (Nat.le_of_ble_eq_true rfl) dX7_readName_130 ?_
                refine g_iconst X (v := 1) dX7_readName_133 (by decide) ?_
                obtain ⟨rfl, rfl⟩ := zsm hf
                exact g_zret X (Or.inr rfl) hr dX7_readName_134
            · have hf := zneg hq hf
              refine g_aload_n X 0 dX7_readName_53 rfl ?_
              refine g_iconst X (v := 1) dX7_readName_54 (by decide) ?_
              obtain ⟨v49, h48, hch48, hf⟩ := zc2_e hf
              refine g_callV X 1 (sX7_fail hch48) zf7 hk1 ydX7_fail w_ml_RX7_64 w_instanceMethod_X7_fail w_sel_X7_fail w_ini_RX7 w_code_X7_fail (by decide) rfl (st := []) rfl rfl (Nat.le_of_ble_eq_true rfl) dX7_readName_55 ?_
              obtain ⟨hb50, hf⟩ := zite hf
              obtain ⟨rfl, rfl⟩ := zsm hf
              exact g_zret X hb50 hr dX7_readName_58

set_option maxHeartbeats 4000000 in
set_option maxRecDepth 100000 in
theorem sX7_keepWord {l : Launch} {D : va_G} {cA : Nat → ClassId} {base : Nat} {sA : Nat → Nat} {r0 : Nat} {h hE : Zh} {rE : Int32} (hf : fX7_keepWord r0 h = some (rE, hE)) : zC l yX7_keepWord cX7_keepWord 1 (some .int) 5 107 D cA base sA [.ref (base + r0)] h (some (.int rE)) hE := by
  refine g_entry RX7 (by decide) rfl (Nat.le_of_ble_eq_true rfl) ?_
  intro p e s m args below meth c X hr
  unfold fX7_keepWord at hf
  have hf := zlet_n (x := h) rfl hf
  show zG p l e { frames := 5, cells := 0, slots := 0, locals := 107 } s m args below meth c (MQ below (zQ D cA base h hE (some (.int rE))) args s 0 0 (zA base)) 1 D cA base h 0 [(0, .ref (base + r0))] [] h
  refine g_aload_n X 0 dX7_keepWord_0 rfl ?_
  refine g_ldcS X (i := 16) (tx := "low") (by decide) dX7_keepWord_1 ?_
  obtain ⟨hk1, hf⟩ := zite hf
  obtain ⟨v3, h2, hch2, hf⟩ := zc2_e hf
  refine g_callV X 1 (sX7_is hch2) zf7 hk1 ydX7_is w_ml_RX7_87 w_instanceMethod_X7_is w_sel_X7_is w_ini_RX7 w_code_X7_is (by decide) rfl (st := []) rfl rfl (Nat.le_of_ble_eq_true rfl) dX7_keepWord_3 ?_
  refine g_if_eq X 13 dX7_keepWord_6 (by decide) (fun hq => ?_) (fun hq => ?_)
  · have hf := zpos hq hf
    refine g_aload_n X 0 dX7_keepWord_13 rfl ?_
    refine g_ldcS X (i := 17) (tx := "high") (by decide) dX7_keepWord_14 ?_
    obtain ⟨v5, h4, hch4, hf⟩ := zc2_e hf
    refine g_callV X 1 (sX7_is hch4) zf7 hk1 ydX7_is w_ml_RX7_87 w_instanceMethod_X7_is w_sel_X7_is w_ini_RX7 w_code_X7_is (by decide) rfl (st := []) rfl rfl (Nat.le_of_ble_eq_true rfl) dX7_keepWord_16 ?_
    refine g_if_eq X 26 dX7_keepWord_19 (by decide) (fun hq => ?_) (fun hq => ?_)
    · have hf := zpos hq hf
      refine g_aload_n X 0 dX7_keepWord_26 rfl ?_
      refine g_ldcS X (i := 18) (tx := "mid") (by decide) dX7_keepWord_27 ?_
      obtain ⟨v7, h6, hch6, hf⟩ := zc2_e hf
      refine g_callV X 1 (sX7_is hch6) zf7 hk1 ydX7_is w_ml_RX7_87 w_instanceMethod_X7_is w_sel_X7_is w_ini_RX7 w_code_X7_is (by decide) rfl (st := []) rfl rfl (Nat.le_of_ble_eq_true rfl) dX7_keepWord_29 ?_
      refine g_if_eq X 39 dX7_keepWord_32 (by decide) (fun hq => ?_) (fun hq => ?_)
      · have hf := zpos hq hf
        refine g_aload_n X 0 dX7_keepWord_39 rfl ?_
        refine g_ldcS X (i := 19) (tx := "sum") (by decide) dX7_keepWord_40 ?_
        obtain ⟨v9, h8, hch8, hf⟩ := zc2_e hf
        refine g_callV X 1 (sX7_is hch8) zf7 hk1 ydX7_is w_ml_RX7_87 w_instanceMethod_X7_is w_sel_X7_is w_ini_RX7 w_code_X7_is (by decide) rfl (st := []) rfl rfl (Nat.le_of_ble_eq_true rfl) dX7_keepWord_42 ?_
        refine g_if_eq X 52 dX7_keepWord_45 (by decide) (fun hq => ?_) (fun hq => ?_)
        · have hf := zpos hq hf
          refine g_iconst X (v := -1) dX7_keepWord_52 (by decide) ?_
          obtain ⟨rfl, rfl⟩ := zsm hf
          exact g_iret X hr dX7_keepWord_53
        · have hf := zneg hq hf
          refine g_iconst X (v := 3) dX7_keepWord_48 (by decide) ?_
          refine g_goto X 53 dX7_keepWord_49 (by decide) ?_
          obtain ⟨rfl, rfl⟩ := zsm hf
          exact g_iret X hr dX7_keepWord_53
      · have hf := zneg hq hf
        refine g_iconst X (v := 2) dX7_keepWord_35 (by decide) ?_
        refine g_goto X 53 dX7_keepWord_36 (by decide) ?_
        obtain ⟨rfl, rfl⟩ := zsm hf
        exact g_iret X hr dX7_keepWord_53
    · have hf := zneg hq hf
      refine g_iconst X (v := 1) dX7_keepWord_22 (by decide) ?_
      refine g_goto X 53 dX7_keepWord_23 (by decide) ?_
      obtain ⟨rfl, rfl⟩ := zsm hf
      exact g_iret X hr dX7_keepWord_53
  · have hf := zneg hq hf
    refine g_iconst X (v := 0) dX7_keepWord_9 (by decide) ?_
    refine g_goto X 53 dX7_keepWord_10 (by decide) ?_
    obtain ⟨rfl, rfl⟩ := zsm hf
    exact g_iret X hr dX7_keepWord_53

set_option maxHeartbeats 4000000 in
set_option maxRecDepth 100000 in
theorem sX7_tellWord {l : Launch} {D : va_G} {cA : Nat → ClassId} {base : Nat} {sA : Nat → Nat} {r0 : Nat} {h hE : Zh} {rE : Int32} (hf : fX7_tellWord r0 h = some (rE, hE)) : zC l yX7_tellWord cX7_tellWord 1 (some .int) 5 107 D cA base sA [.ref (base + r0)] h (some (.int rE)) hE := by
  refine g_entry RX7 (by decide) rfl (Nat.le_of_ble_eq_true rfl) ?_
  intro p e s m args below meth c X hr
  unfold fX7_tellWord at hf
  have hf := zlet_n (x := h) rfl hf
  show zG p l e { frames := 5, cells := 0, slots := 0, locals := 107 } s m args below meth c (MQ below (zQ D cA base h hE (some (.int rE))) args s 0 0 (zA base)) 1 D cA base h 0 [(0, .ref (base + r0))] [] h
  refine g_aload_n X 0 dX7_tellWord_0 rfl ?_
  refine g_ldcS X (i := 21) (tx := "place") (by decide) dX7_tellWord_1 ?_
  obtain ⟨hk1, hf⟩ := zite hf
  obtain ⟨v3, h2, hch2, hf⟩ := zc2_e hf
  refine g_callV X 1 (sX7_is hch2) zf7 hk1 ydX7_is w_ml_RX7_87 w_instanceMethod_X7_is w_sel_X7_is w_ini_RX7 w_code_X7_is (by decide) rfl (st := []) rfl rfl (Nat.le_of_ble_eq_true rfl) dX7_tellWord_3 ?_
  refine g_if_eq X 13 dX7_tellWord_6 (by decide) (fun hq => ?_) (fun hq => ?_)
  · have hf := zpos hq hf
    refine g_aload_n X 0 dX7_tellWord_13 rfl ?_
    refine g_ldcS X (i := 22) (tx := "rank") (by decide) dX7_tellWord_14 ?_
    obtain ⟨v5, h4, hch4, hf⟩ := zc2_e hf
    refine g_callV X 1 (sX7_is hch4) zf7 hk1 ydX7_is w_ml_RX7_87 w_instanceMethod_X7_is w_sel_X7_is w_ini_RX7 w_code_X7_is (by decide) rfl (st := []) rfl rfl (Nat.le_of_ble_eq_true rfl) dX7_tellWord_16 ?_
    refine g_if_eq X 26 dX7_tellWord_19 (by decide) (fun hq => ?_) (fun hq => ?_)
    · have hf := zpos hq hf
      refine g_aload_n X 0 dX7_tellWord_26 rfl ?_
      refine g_ldcS X (i := 23) (tx := "gap") (by decide) dX7_tellWord_27 ?_
      obtain ⟨v7, h6, hch6, hf⟩ := zc2_e hf
      refine g_callV X 1 (sX7_is hch6) zf7 hk1 ydX7_is w_ml_RX7_87 w_instanceMethod_X7_is w_sel_X7_is w_ini_RX7 w_code_X7_is (by decide) rfl (st := []) rfl rfl (Nat.le_of_ble_eq_true rfl) dX7_tellWord_29 ?_
      refine g_if_eq X 39 dX7_tellWord_32 (by decide) (fun hq => ?_) (fun hq => ?_)
      · have hf := zpos hq hf
        refine g_aload_n X 0 dX7_tellWord_39 rfl ?_
        refine g_ldcS X (i := 24) (tx := "ring") (by decide) dX7_tellWord_40 ?_
        obtain ⟨v9, h8, hch8, hf⟩ := zc2_e hf
        refine g_callV X 1 (sX7_is hch8) zf7 hk1 ydX7_is w_ml_RX7_87 w_instanceMethod_X7_is w_sel_X7_is w_ini_RX7 w_code_X7_is (by decide) rfl (st := []) rfl rfl (Nat.le_of_ble_eq_true rfl) dX7_tellWord_42 ?_
        refine g_if_eq X 52 dX7_tellWord_45 (by decide) (fun hq => ?_) (fun hq => ?_)
        · have hf := zpos hq hf
          refine g_aload_n X 0 dX7_tellWord_52 rfl ?_
          refine g_ldcS X (i := 19) (tx := "sum") (by decide) dX7_tellWord_53 ?_
          obtain ⟨v11, h10, hch10, hf⟩ := zc2_e hf
          refine g_callV X 1 (sX7_is hch10) zf7 hk1 ydX7_is w_ml_RX7_87 w_instanceMethod_X7_is w_sel_X7_is w_ini_RX7 w_code_X7_is (by decide) rfl (st := []) rfl rfl (Nat.le_of_ble_eq_true rfl) dX7_tellWord_55 ?_
          refine g_if_eq X 65 dX7_tellWord_58 (by decide) (fun hq => ?_) (fun hq => ?_)
          · have hf := zpos hq hf
            refine g_iconst X (v := -1) dX7_tellWord_65 (by decide) ?_
            obtain ⟨rfl, rfl⟩ := zsm hf
            exact g_iret X hr dX7_tellWord_66
          · have hf := zneg hq hf
            refine g_iconst X (v := 4) dX7_tellWord_61 (by decide) ?_
            refine g_goto X 66 dX7_tellWord_62 (by decide) ?_
            obtain ⟨rfl, rfl⟩ := zsm hf
            exact g_iret X hr dX7_tellWord_66
        · have hf := zneg hq hf
          refine g_iconst X (v := 3) dX7_tellWord_48 (by decide) ?_
          refine g_goto X 66 dX7_tellWord_49 (by decide) ?_
          obtain ⟨rfl, rfl⟩ := zsm hf
          exact g_iret X hr dX7_tellWord_66
      · have hf := zneg hq hf
        refine g_iconst X (v := 2) dX7_tellWord_35 (by decide) ?_
        refine g_goto X 66 dX7_tellWord_36 (by decide) ?_
        obtain ⟨rfl, rfl⟩ := zsm hf
        exact g_iret X hr dX7_tellWord_66
    · have hf := zneg hq hf
      refine g_iconst X (v := 1) dX7_tellWord_22 (by decide) ?_
      refine g_goto X 66 dX7_tellWord_23 (by decide) ?_
      obtain ⟨rfl, rfl⟩ := zsm hf
      exact g_iret X hr dX7_tellWord_66
  · have hf := zneg hq hf
    refine g_iconst X (v := 0) dX7_tellWord_9 (by decide) ?_
    refine g_goto X 66 dX7_tellWord_10 (by decide) ?_
    obtain ⟨rfl, rfl⟩ := zsm hf
    exact g_iret X hr dX7_tellWord_66

