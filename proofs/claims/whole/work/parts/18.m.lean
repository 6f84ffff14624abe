/-! FifthCard firstWrong -/
def bX10_firstWrong_2 (g : Zh) (r0 : Nat) (r1 : Nat) (x2 : Int32) (h : Zh) : Option (Nat × Int32 × Zh) :=
  if zK g r0 = 10 then (zR h r0 3).bind fun r_2 => if zK g r_2 = 9 then (zR h r_2 4).bind fun r_4 => if zK g r_4 = 1 then if (zI h r_4 2) ≤ x2 then some (2, (x2, h)) else zc2 (fX10_isAgreed r0 r1 x2 h) fun v7 h6 => if v7 = 0 then some (1, (x2, h6)) else zlet (x2 + (1 : Int32)) fun y8 => some (0, (y8, h6)) else none else none else none
def kX10_firstWrong_2 (g : Zh)  (e : Nat) (x2 : Int32) (h : Zh) : Option (Int32 × Zh) :=
  if e = 1 then some (x2, h) else some ((-2 : Int32), h)
def fX10_firstWrong (r0 : Nat) (r1 : Nat) (h : Zh) : Option (Int32 × Zh) := zlet h fun g =>
  (lp (fun q : Int32 × Zh => bX10_firstWrong_2 g r0 r1 q.1 q.2) zB ((0 : Int32), h)).bind fun q => kX10_firstWrong_2 g q.1 q.2.1 q.2.2
/-! FifthCard commonDivisor -/
def bX10_commonDivisor_7 (g : Zh)  (x2 : Int32) (x3 : Int32) (x4 : Int32) (h : Zh) : Option (Nat × Int32 × Int32 × Int32 × Zh) :=
  if ((64 : Int32)) ≤ x4 then some (1, (x2, (x3, (x4, h)))) else if x3 = 0 then some (1, (x2, (x3, (x4, h)))) else if ¬ x3 = 0 then zlet (zrem x2 x3) fun y2 => zlet (x4 + (1 : Int32)) fun y3 => some (0, (x3, (y2, (y3, h)))) else none
def kX10_commonDivisor_7 (g : Zh)  (e : Nat) (x2 : Int32) (x3 : Int32) (x4 : Int32) (h : Zh) : Option (Int32 × Zh) :=
  some (if x2 < ((1 : Int32)) then ((1 : Int32)) else x2, h)
def fX10_commonDivisor (x0 : Int32) (x1 : Int32) (h : Zh) : Option (Int32 × Zh) := zlet h fun g =>
  (lp (fun q : Int32 × Int32 × Int32 × Zh => bX10_commonDivisor_7 g q.1 q.2.1 q.2.2.1 q.2.2.2) zB (x0, (x1, ((0 : Int32), h)))).bind fun q => kX10_commonDivisor_7 g q.1 q.2.1 q.2.2.1 q.2.2.2.1 q.2.2.2.2
/-! FifthCard deny -/
def fX10_deny (r0 : Nat) (x1 : Int32) (h : Zh) : Option (Int32 × Zh) := zlet h fun g =>
  if zK g r0 = 10 then zlet (zsI h r0 8 x1) fun h2 => some ((0 : Int32), h2) else none
/-! FifthCard grant -/
def fX10_grant (r0 : Nat) (h : Zh) : Option (Int32 × Zh) := zlet h fun g =>
  if zK g r0 = 10 then zlet (zsI h r0 8 ((0 : Int32))) fun h2 => some ((1 : Int32), h2) else none
/-! FifthCard seed -/
def fX10_seed (r0 : Nat) (x1 : Int32) (h : Zh) : Option (Int32 × Zh) := zlet h fun g =>
  if zK g r0 = 10 then (zR h r0 3).bind fun r_2 => if zK g r_2 = 9 then if (zI h r_2 0) = 0 then zc2 (fX10_deny r0 ((1 : Int32)) h) fun v19 h18 => if v19 = 0 ∨ v19 = 1 then some (v19, h18) else none else if x1 < 0 then zc2 (fX10_deny r0 ((2 : Int32)) h) fun v5 h4 => if v5 = 0 ∨ v5 = 1 then some (v5, h4) else none else if x1 ≤ ((65536 : Int32)) then (zR h r0 3).bind fun r_7 => if zK g r_7 = 9 then (zR h r_7 4).bind fun r_9 => if zK g r_9 = 1 then zlet (zsI h r_9 3 x1) fun h11 => zc2 (fX10_grant r0 h11) fun v13 h12 => if v13 = 0 ∨ v13 = 1 then some (v13, h12) else none else none else none else zc2 (fX10_deny r0 ((2 : Int32)) h) fun v16 h15 => if v16 = 0 ∨ v16 = 1 then some (v16, h15) else none else none else none
/-! FifthCard draw -/
def fX10_draw (r0 : Nat) (h : Zh) : Option (Int32 × Zh) := zlet h fun g =>
  if zK g r0 = 10 then (zR h r0 3).bind fun r_2 => if zK g r_2 = 9 then if (zI h r_2 0) = 0 then zc2 (fX10_refuse r0 ((1 : Int32)) h) fun v26 h25 => some (v26, h25) else (zR h r0 3).bind fun r_4 => if zK g r_4 = 9 then (zR h r_4 4).bind fun r_6 => (zR h r0 3).bind fun r_7 => if zK g r_7 = 9 then (zR h r_7 4).bind fun r_9 => if zK g r_9 = 1 then if ¬ ((65537 : Int32)) = 0 then if zK g r_6 = 1 then zlet (zsI h r_6 3 (zrem ((((75 : Int32)) * (zI h r_9 3)) + ((74 : Int32))) ((65537 : Int32)))) fun h13 => (zR h13 r0 3).bind fun r_14 => if zK g r_14 = 9 then (zR h13 r_14 4).bind fun r_16 => if zK g r_16 = 1 then (zR h13 r0 3).bind fun r_18 => if zK g r_18 = 9 then (zR h13 r_18 1).bind fun r_20 => if zK g r_20 = 0 then if ¬ (zI h13 r_20 9) = 0 then zc2 (fX10_answer r0 (zrem (zI h13 r_16 3) (zI h13 r_20 9)) h13) fun v24 h23 => some (v24, h23) else none else none else none else none else none else none else none else none else none else none else none else none
/-! FifthCard strike -/
def fX10_strike (r0 : Nat) (h : Zh) : Option (Int32 × Zh) := zlet h fun g =>
  if zK g r0 = 10 then (zR h r0 3).bind fun r_2 => if zK g r_2 = 9 then (zR h r_2 4).bind fun r_4 => if zK g r_4 = 1 then if (zI h r_4 2) = 0 then zc2 (fX10_deny r0 ((6 : Int32)) h) fun v15 h14 => if v15 = 0 ∨ v15 = 1 then some (v15, h14) else none else (zR h r0 3).bind fun r_6 => if zK g r_6 = 9 then (zR h r_6 4).bind fun r_8 => if zK g r_8 = 1 then zlet (zsI h r_8 2 ((zI h r_8 2) - ((1 : Int32)))) fun h10 => zc2 (fX10_grant r0 h10) fun v12 h11 => if v12 = 0 ∨ v12 = 1 then some (v12, h11) else none else none else none else none else none else none
/-! FifthCard size -/
def fX10_size (r0 : Nat) (x1 : Int32) (h : Zh) : Option (Int32 × Zh) := zlet h fun g =>
  if zK g r0 = 10 then (zR h r0 3).bind fun r_2 => if zK g r_2 = 9 then (zR h r_2 1).bind fun r_4 => if x1 = 0 then if zK g r_4 = 0 then some (zI h r_4 0, h) else none else if x1 = 1 then if zK g r_4 = 0 then some (zI h r_4 1, h) else none else if x1 = 2 then if zK g r_4 = 0 then some (zI h r_4 3, h) else none else if x1 = 3 then if zK g r_4 = 0 then some (zI h r_4 4, h) else none else if x1 = 4 then if zK g r_4 = 0 then if (zI h r_4 6) = 0 then some ((0 : Int32), h) else some ((1 : Int32), h) else none else if x1 = 5 then if zK g r_4 = 0 then if (zI h r_4 7) = 0 then some ((0 : Int32), h) else some ((1 : Int32), h) else none else if x1 = 6 then if zK g r_4 = 0 then if (zI h r_4 8) = 0 then some ((0 : Int32), h) else some ((1 : Int32), h) else none else if x1 = 7 then (zR h r0 3).bind fun r_12 => if zK g r_12 = 9 then some (zI h r_12 3, h) else none else if x1 = 8 then (zR h r0 3).bind fun r_14 => if zK g r_14 = 9 then (zR h r_14 4).bind fun r_16 => if zK g r_16 = 1 then some (zI h r_16 2, h) else none else none else if x1 = 9 then (zR h r0 3).bind fun r_18 => if zK g r_18 = 9 then (zR h r_18 4).bind fun r_20 => if zK g r_20 = 1 then some (zI h r_20 3, h) else none else none else if x1 = 10 then some (zI h r0 7, h) else if x1 = 11 then some (zI h r0 1, h) else some ((-1 : Int32), h) else none else none
/-! FifthCard noRule -/
def fX10_noRule (r0 : Nat) (x1 : Int32) (h : Zh) : Option (Int32 × Zh) := zlet h fun g =>
  if x1 < 0 then some ((1 : Int32), h) else if zK g r0 = 10 then (zR h r0 3).bind fun r_2 => if zK g r_2 = 9 then if x1 < (zI h r_2 3) then some ((0 : Int32), h) else some ((1 : Int32), h) else none else none
/-! FifthCard words -/
def fX10_words (r0 : Nat) (x1 : Int32) (h : Zh) : Option (Int32 × Zh) := zlet h fun g =>
  if zK g r0 = 10 then zc2 (fX10_noRule r0 x1 h) fun v3 h2 => if v3 = 0 then (zR h2 r0 3).bind fun r_4 => if zK g r_4 = 9 then (zR h2 r_4 2).bind fun r_6 => if zK g r_6 = 100 then if zin x1 (zL g r_6) then some (zI h2 r_6 x1.toNatClampNeg, h2) else none else none else none else some ((-1 : Int32), h2) else none
/-! FifthCard trouble -/
def fX10_trouble (r0 : Nat) (h : Zh) : Option (Int32 × Zh) := zlet h fun g =>
  if zK g r0 = 10 then some (zI h r0 8, h) else none
/-! FifthCardModel rowsOf -/
def bX12_rowsOf_5 (g : Zh) (x0 : Int32) (x1 : Int32) (j2 : Int64) (x4 : Int32) (h : Zh) : Option (Nat × Int64 × Int32 × Zh) :=
  if x1 ≤ x4 then some (1, (j2, (x4, h))) else zlet (j2 * ((x0 - x4).toInt64)) fun y1 => zlet (x4 + (1 : Int32)) fun y2 => some (0, (y1, (y2, h)))
def kX12_rowsOf_5 (g : Zh)  (e : Nat) (j2 : Int64) (x4 : Int32) (h : Zh) : Option (Int64 × Zh) :=
  some (j2, h)
def fX12_rowsOf (x0 : Int32) (x1 : Int32) (h : Zh) : Option (Int64 × Zh) := zlet h fun g =>
  (lp (fun q : Int64 × Int32 × Zh => bX12_rowsOf_5 g x0 x1 q.1 q.2.1 q.2.2) zB ((1 : Int64), ((0 : Int32), h))).bind fun q => kX12_rowsOf_5 g q.1 q.2.1 q.2.2.1 q.2.2.2
/-! FifthCardModel setsOf -/
def fX12_setsOf (x0 : Int32) (x1 : Int32) (h : Zh) : Option (Int64 × Zh) := zlet h fun g =>
  zc2 (fX12_rowsOf x0 x1 h) fun v2 h1 => zc2 (fX12_rowsOf x1 x1 h1) fun v4 h3 => if ¬ v4 = 0 then some (v2 / v4, h3) else none
/-! FifthCardModel Trick handsOf -/
def fX11_handsOf (r0 : Nat) (x1 : Int32) (h : Zh) : Option (Int64 × Zh) := zlet h fun g =>
  if zK g r0 = 11 then if (zI h r0 7) = 0 then zc2 (fX12_setsOf x1 (zI h r0 2) h) fun v3 h2 => some (v3, h2) else zc2 (fX12_rowsOf x1 (zI h r0 2) h) fun v5 h4 => some (v5, h4) else none
/-! FifthCardModel Trick tilts -/
def fX11_tilts (r0 : Nat) (h : Zh) : Option (Int32 × Zh) := zlet h fun g =>
  if zK g r0 = 11 then if (zI h r0 9) = 0 then some ((1 : Int32), h) else some (((1 : Int32)) <<< ((zI h r0 4) &&& 31), h) else none
/-! FifthCardModel thrown -/
def fX12_thrown (r0 : Nat) (h : Zh) : Option (Int32 × Zh) := zlet h fun g =>
  if zK g r0 = 12 then some (zI h r0 0, h) else none
/-! FifthCardModel refused -/
def fX12_refused (r0 : Nat) (x1 : Int32) (h : Zh) : Option (Int32 × Zh) := zlet h fun g =>
  if zK g r0 = 12 then zlet (zsI h r0 1 x1) fun h2 => zlet (zsI h2 r0 2 ((-1 : Int32))) fun h3 => some ((-1 : Int32), h3) else none
/-! FifthCardModel denied -/
def fX12_denied (r0 : Nat) (x1 : Int32) (h : Zh) : Option (Int32 × Zh) := zlet h fun g =>
  if zK g r0 = 12 then zc2 (fX12_refused r0 x1 h) fun v3 h2 => some ((0 : Int32), h2) else none
/-! FifthCardModel good -/
def fX12_good (r0 : Nat) (x1 : Int32) (h : Zh) : Option (Int32 × Zh) := zlet h fun g =>
  if zK g r0 = 12 then zlet (zsI h r0 1 ((0 : Int32))) fun h2 => zlet (zsI h2 r0 2 ((-1 : Int32))) fun h3 => some (x1, h3) else none
/-! FifthCardModel granted -/
def fX12_granted (r0 : Nat) (h : Zh) : Option (Int32 × Zh) := zlet h fun g =>
  if zK g r0 = 12 then zc2 (fX12_good r0 ((0 : Int32)) h) fun v3 h2 => some ((1 : Int32), h2) else none
/-! FifthCardModel in -/
def fX12_in (x0 : Int32) (x1 : Int32) (x2 : Int32) (h : Zh) : Option (Int32 × Zh) := zlet h fun g =>
  if x0 < x1 then some ((0 : Int32), h) else if x2 < x0 then some ((0 : Int32), h) else some ((1 : Int32), h)
/-! FifthCardModel divisor -/
def bX12_divisor_4 (g : Zh)  (x2 : Int32) (x3 : Int32) (h : Zh) : Option (Nat × Int32 × Int32 × Zh) :=
  if x3 = 0 then some (1, (x2, (x3, h))) else if ¬ x3 = 0 then zlet (zrem x2 x3) fun y2 => some (0, (x3, (y2, h))) else none
def kX12_divisor_4 (g : Zh)  (e : Nat) (x2 : Int32) (x3 : Int32) (h : Zh) : Option (Int32 × Zh) :=
  some (x2, h)
def fX12_divisor (x0 : Int32) (x1 : Int32) (h : Zh) : Option (Int32 × Zh) := zlet h fun g =>
  (lp (fun q : Int32 × Int32 × Zh => bX12_divisor_4 g q.1 q.2.1 q.2.2) zB (x0, (x1, h))).bind fun q => kX12_divisor_4 g q.1 q.2.1 q.2.2.1 q.2.2.2
/-! FifthCardModel byteAt -/
def fX12_byteAt (r0 : Nat) (x1 : Int32) (h : Zh) : Option (Int32 × Zh) := zlet h fun g =>
  if zK g r0 = 12 then if (zI h r0 7) ≤ x1 then some ((-1 : Int32), h) else (zR h r0 5).bind fun r_2 => if zK g r_2 = 101 then if zin x1 (zL g r_2) then some ((zI h r_2 x1.toNatClampNeg) &&& ((255 : Int32)), h) else none else none else none
/-! FifthCardModel isLetter -/
def fX12_isLetter (x0 : Int32) (h : Zh) : Option (Int32 × Zh) := zlet h fun g =>
  if x0 < ((97 : Int32)) then some ((0 : Int32), h) else if ((122 : Int32)) < x0 then some ((0 : Int32), h) else some ((1 : Int32), h)
/-! FifthCardModel isDigit -/
def fX12_isDigit (x0 : Int32) (h : Zh) : Option (Int32 × Zh) := zlet h fun g =>
  if x0 < ((48 : Int32)) then some ((0 : Int32), h) else if ((57 : Int32)) < x0 then some ((0 : Int32), h) else some ((1 : Int32), h)
theorem dX10_firstWrong_0 : decode cX10_firstWrong 0 = .ok (.iconst 0, 1) := by decide +kernel
theorem dX10_firstWrong_1 : decode cX10_firstWrong 1 = .ok (.istore_n 2, 1) := by decide +kernel
theorem dX10_firstWrong_2 : decode cX10_firstWrong 2 = .ok (.iload_n 2, 1) := by decide +kernel
theorem dX10_firstWrong_3 : decode cX10_firstWrong 3 = .ok (.aload_n 0, 1) := by decide +kernel
theorem dX10_firstWrong_4 : decode cX10_firstWrong 4 = .ok (.getfield 23, 3) := by decide +kernel
theorem dX10_firstWrong_7 : decode cX10_firstWrong 7 = .ok (.getfield 233, 3) := by decide +kernel
theorem dX10_firstWrong_10 : decode cX10_firstWrong 10 = .ok (.getfield 239, 3) := by decide +kernel
theorem dX10_firstWrong_13 : decode cX10_firstWrong 13 = .ok (.if_icmp .ge 20, 3) := by decide +kernel
theorem dX10_firstWrong_16 : decode cX10_firstWrong 16 = .ok (.aload_n 0, 1) := by decide +kernel
theorem dX10_firstWrong_17 : decode cX10_firstWrong 17 = .ok (.aload_n 1, 1) := by decide +kernel
theorem dX10_firstWrong_18 : decode cX10_firstWrong 18 = .ok (.iload_n 2, 1) := by decide +kernel
theorem dX10_firstWrong_19 : decode cX10_firstWrong 19 = .ok (.invokevirtual 242, 3) := by decide +kernel
theorem dX10_firstWrong_22 : decode cX10_firstWrong 22 = .ok (.ifCond .ne 5, 3) := by decide +kernel
theorem dX10_firstWrong_25 : decode cX10_firstWrong 25 = .ok (.iload_n 2, 1) := by decide +kernel
theorem dX10_firstWrong_26 : decode cX10_firstWrong 26 = .ok (.ireturn, 1) := by decide +kernel
theorem dX10_firstWrong_27 : decode cX10_firstWrong 27 = .ok (.iinc 2 1, 3) := by decide +kernel
theorem dX10_firstWrong_30 : decode cX10_firstWrong 30 = .ok (.goto (-28), 3) := by decide +kernel
theorem dX10_firstWrong_33 : decode cX10_firstWrong 33 = .ok (.bipush (-2), 2) := by decide +kernel
theorem dX10_firstWrong_35 : decode cX10_firstWrong 35 = .ok (.ireturn, 1) := by decide +kernel
theorem dX10_commonDivisor_0 : decode cX10_commonDivisor 0 = .ok (.iload_n 0, 1) := by decide +kernel
theorem dX10_commonDivisor_1 : decode cX10_commonDivisor 1 = .ok (.istore_n 2, 1) := by decide +kernel
theorem dX10_commonDivisor_2 : decode cX10_commonDivisor 2 = .ok (.iload_n 1, 1) := by decide +kernel
theorem dX10_commonDivisor_3 : decode cX10_commonDivisor 3 = .ok (.istore_n 3, 1) := by decide +kernel
theorem dX10_commonDivisor_4 : decode cX10_commonDivisor 4 = .ok (.iconst 0, 1) := by decide +kernel
theorem dX10_commonDivisor_5 : decode cX10_commonDivisor 5 = .ok (.istore 4, 2) := by decide +kernel
theorem dX10_commonDivisor_7 : decode cX10_commonDivisor 7 = .ok (.iload 4, 2) := by decide +kernel
theorem dX10_commonDivisor_9 : decode cX10_commonDivisor 9 = .ok (.bipush 64, 2) := by decide +kernel
theorem dX10_commonDivisor_11 : decode cX10_commonDivisor 11 = .ok (.if_icmp .ge 23, 3) := by decide +kernel
theorem dX10_commonDivisor_14 : decode cX10_commonDivisor 14 = .ok (.iload_n 3, 1) := by decide +kernel
theorem dX10_commonDivisor_15 : decode cX10_commonDivisor 15 = .ok (.ifCond .eq 19, 3) := by decide +kernel
theorem dX10_commonDivisor_18 : decode cX10_commonDivisor 18 = .ok (.iload_n 2, 1) := by decide +kernel
theorem dX10_commonDivisor_19 : decode cX10_commonDivisor 19 = .ok (.iload_n 3, 1) := by decide +kernel
theorem dX10_commonDivisor_20 : decode cX10_commonDivisor 20 = .ok (.irem, 1) := by decide +kernel
theorem dX10_commonDivisor_21 : decode cX10_commonDivisor 21 = .ok (.istore 5, 2) := by decide +kernel
theorem dX10_commonDivisor_23 : decode cX10_commonDivisor 23 = .ok (.iload_n 3, 1) := by decide +kernel
theorem dX10_commonDivisor_24 : decode cX10_commonDivisor 24 = .ok (.istore_n 2, 1) := by decide +kernel
theorem dX10_commonDivisor_25 : decode cX10_commonDivisor 25 = .ok (.iload 5, 2) := by decide +kernel
theorem dX10_commonDivisor_27 : decode cX10_commonDivisor 27 = .ok (.istore_n 3, 1) := by decide +kernel
theorem dX10_commonDivisor_28 : decode cX10_commonDivisor 28 = .ok (.iinc 4 1, 3) := by decide +kernel
theorem dX10_commonDivisor_31 : decode cX10_commonDivisor 31 = .ok (.goto (-24), 3) := by decide +kernel
theorem dX10_commonDivisor_34 : decode cX10_commonDivisor 34 = .ok (.iload_n 2, 1) := by decide +kernel
theorem dX10_commonDivisor_35 : decode cX10_commonDivisor 35 = .ok (.iconst 1, 1) := by decide +kernel
theorem dX10_commonDivisor_36 : decode cX10_commonDivisor 36 = .ok (.invokestatic 255, 3) := by decide +kernel
theorem dX10_commonDivisor_39 : decode cX10_commonDivisor 39 = .ok (.ireturn, 1) := by decide +kernel
theorem dX10_deny_0 : decode cX10_deny 0 = .ok (.aload_n 0, 1) := by decide +kernel
theorem dX10_deny_1 : decode cX10_deny 1 = .ok (.iload_n 1, 1) := by decide +kernel
theorem dX10_deny_2 : decode cX10_deny 2 = .ok (.putfield 87, 3) := by decide +kernel
theorem dX10_deny_5 : decode cX10_deny 5 = .ok (.iconst 0, 1) := by decide +kernel
theorem dX10_deny_6 : decode cX10_deny 6 = .ok (.ireturn, 1) := by decide +kernel
theorem dX10_grant_0 : decode cX10_grant 0 = .ok (.aload_n 0, 1) := by decide +kernel
theorem dX10_grant_1 : decode cX10_grant 1 = .ok (.iconst 0, 1) := by decide +kernel
theorem dX10_grant_2 : decode cX10_grant 2 = .ok (.putfield 87, 3) := by decide +kernel
theorem dX10_grant_5 : decode cX10_grant 5 = .ok (.iconst 1, 1) := by decide +kernel
theorem dX10_grant_6 : decode cX10_grant 6 = .ok (.ireturn, 1) := by decide +kernel
theorem dX10_seed_0 : decode cX10_seed 0 = .ok (.aload_n 0, 1) := by decide +kernel
theorem dX10_seed_1 : decode cX10_seed 1 = .ok (.getfield 23, 3) := by decide +kernel
theorem dX10_seed_4 : decode cX10_seed 4 = .ok (.getfield 90, 3) := by decide +kernel
theorem dX10_seed_7 : decode cX10_seed 7 = .ok (.ifCond .ne 9, 3) := by decide +kernel
theorem dX10_seed_10 : decode cX10_seed 10 = .ok (.aload_n 0, 1) := by decide +kernel
theorem dX10_seed_11 : decode cX10_seed 11 = .ok (.iconst 1, 1) := by decide +kernel
theorem dX10_seed_12 : decode cX10_seed 12 = .ok (.invokevirtual 262, 3) := by decide +kernel
theorem dX10_seed_15 : decode cX10_seed 15 = .ok (.ireturn, 1) := by decide +kernel
theorem dX10_seed_16 : decode cX10_seed 16 = .ok (.iload_n 1, 1) := by decide +kernel
theorem dX10_seed_17 : decode cX10_seed 17 = .ok (.ifCond .lt 10, 3) := by decide +kernel
theorem dX10_seed_20 : decode cX10_seed 20 = .ok (.iload_n 1, 1) := by decide +kernel
theorem dX10_seed_21 : decode cX10_seed 21 = .ok (.ldc_w 265, 3) := by decide +kernel
theorem dX10_seed_24 : decode cX10_seed 24 = .ok (.if_icmp .le 9, 3) := by decide +kernel
theorem dX10_seed_27 : decode cX10_seed 27 = .ok (.aload_n 0, 1) := by decide +kernel
theorem dX10_seed_28 : decode cX10_seed 28 = .ok (.iconst 2, 1) := by decide +kernel
theorem dX10_seed_29 : decode cX10_seed 29 = .ok (.invokevirtual 262, 3) := by decide +kernel
theorem dX10_seed_32 : decode cX10_seed 32 = .ok (.ireturn, 1) := by decide +kernel
theorem dX10_seed_33 : decode cX10_seed 33 = .ok (.aload_n 0, 1) := by decide +kernel
theorem dX10_seed_34 : decode cX10_seed 34 = .ok (.getfield 23, 3) := by decide +kernel
theorem dX10_seed_37 : decode cX10_seed 37 = .ok (.getfield 233, 3) := by decide +kernel
theorem dX10_seed_40 : decode cX10_seed 40 = .ok (.iload_n 1, 1) := by decide +kernel
theorem dX10_seed_41 : decode cX10_seed 41 = .ok (.putfield 266, 3) := by decide +kernel
theorem dX10_seed_44 : decode cX10_seed 44 = .ok (.aload_n 0, 1) := by decide +kernel
theorem dX10_seed_45 : decode cX10_seed 45 = .ok (.invokevirtual 269, 3) := by decide +kernel
theorem dX10_seed_48 : decode cX10_seed 48 = .ok (.ireturn, 1) := by decide +kernel
theorem dX10_draw_0 : decode cX10_draw 0 = .ok (.aload_n 0, 1) := by decide +kernel
theorem dX10_draw_1 : decode cX10_draw 1 = .ok (.getfield 23, 3) := by decide +kernel
theorem dX10_draw_4 : decode cX10_draw 4 = .ok (.getfield 90, 3) := by decide +kernel
theorem dX10_draw_7 : decode cX10_draw 7 = .ok (.ifCond .ne 9, 3) := by decide +kernel
theorem dX10_draw_10 : decode cX10_draw 10 = .ok (.aload_n 0, 1) := by decide +kernel
theorem dX10_draw_11 : decode cX10_draw 11 = .ok (.iconst 1, 1) := by decide +kernel
theorem dX10_draw_12 : decode cX10_draw 12 = .ok (.invokevirtual 56, 3) := by decide +kernel
theorem dX10_draw_15 : decode cX10_draw 15 = .ok (.ireturn, 1) := by decide +kernel
theorem dX10_draw_16 : decode cX10_draw 16 = .ok (.aload_n 0, 1) := by decide +kernel
theorem dX10_draw_17 : decode cX10_draw 17 = .ok (.getfield 23, 3) := by decide +kernel
theorem dX10_draw_20 : decode cX10_draw 20 = .ok (.getfield 233, 3) := by decide +kernel
theorem dX10_draw_23 : decode cX10_draw 23 = .ok (.bipush 75, 2) := by decide +kernel
theorem dX10_draw_25 : decode cX10_draw 25 = .ok (.aload_n 0, 1) := by decide +kernel
theorem dX10_draw_26 : decode cX10_draw 26 = .ok (.getfield 23, 3) := by decide +kernel
theorem dX10_draw_29 : decode cX10_draw 29 = .ok (.getfield 233, 3) := by decide +kernel
theorem dX10_draw_32 : decode cX10_draw 32 = .ok (.getfield 266, 3) := by decide +kernel
theorem dX10_draw_35 : decode cX10_draw 35 = .ok (.imul, 1) := by decide +kernel
theorem dX10_draw_36 : decode cX10_draw 36 = .ok (.bipush 74, 2) := by decide +kernel
theorem dX10_draw_38 : decode cX10_draw 38 = .ok (.iadd, 1) := by decide +kernel
theorem dX10_draw_39 : decode cX10_draw 39 = .ok (.ldc_w 273, 3) := by decide +kernel
theorem dX10_draw_42 : decode cX10_draw 42 = .ok (.irem, 1) := by decide +kernel
theorem dX10_draw_43 : decode cX10_draw 43 = .ok (.putfield 266, 3) := by decide +kernel
theorem dX10_draw_46 : decode cX10_draw 46 = .ok (.aload_n 0, 1) := by decide +kernel
theorem dX10_draw_47 : decode cX10_draw 47 = .ok (.aload_n 0, 1) := by decide +kernel
theorem dX10_draw_48 : decode cX10_draw 48 = .ok (.getfield 23, 3) := by decide +kernel
theorem dX10_draw_51 : decode cX10_draw 51 = .ok (.getfield 233, 3) := by decide +kernel
theorem dX10_draw_54 : decode cX10_draw 54 = .ok (.getfield 266, 3) := by decide +kernel
theorem dX10_draw_57 : decode cX10_draw 57 = .ok (.aload_n 0, 1) := by decide +kernel
theorem dX10_draw_58 : decode cX10_draw 58 = .ok (.getfield 23, 3) := by decide +kernel
theorem dX10_draw_61 : decode cX10_draw 61 = .ok (.getfield 94, 3) := by decide +kernel
theorem dX10_draw_64 : decode cX10_draw 64 = .ok (.getfield 98, 3) := by decide +kernel
theorem dX10_draw_67 : decode cX10_draw 67 = .ok (.irem, 1) := by decide +kernel
theorem dX10_draw_68 : decode cX10_draw 68 = .ok (.invokevirtual 84, 3) := by decide +kernel
theorem dX10_draw_71 : decode cX10_draw 71 = .ok (.ireturn, 1) := by decide +kernel
theorem dX10_strike_0 : decode cX10_strike 0 = .ok (.aload_n 0, 1) := by decide +kernel
theorem dX10_strike_1 : decode cX10_strike 1 = .ok (.getfield 23, 3) := by decide +kernel
theorem dX10_strike_4 : decode cX10_strike 4 = .ok (.getfield 233, 3) := by decide +kernel
theorem dX10_strike_7 : decode cX10_strike 7 = .ok (.getfield 239, 3) := by decide +kernel
theorem dX10_strike_10 : decode cX10_strike 10 = .ok (.ifCond .ne 10, 3) := by decide +kernel
theorem dX10_strike_13 : decode cX10_strike 13 = .ok (.aload_n 0, 1) := by decide +kernel
theorem dX10_strike_14 : decode cX10_strike 14 = .ok (.bipush 6, 2) := by decide +kernel
theorem dX10_strike_16 : decode cX10_strike 16 = .ok (.invokevirtual 262, 3) := by decide +kernel
theorem dX10_strike_19 : decode cX10_strike 19 = .ok (.ireturn, 1) := by decide +kernel
theorem dX10_strike_20 : decode cX10_strike 20 = .ok (.aload_n 0, 1) := by decide +kernel
theorem dX10_strike_21 : decode cX10_strike 21 = .ok (.getfield 23, 3) := by decide +kernel
theorem dX10_strike_24 : decode cX10_strike 24 = .ok (.getfield 233, 3) := by decide +kernel
theorem dX10_strike_27 : decode cX10_strike 27 = .ok (.dup, 1) := by decide +kernel
theorem dX10_strike_28 : decode cX10_strike 28 = .ok (.getfield 239, 3) := by decide +kernel
theorem dX10_strike_31 : decode cX10_strike 31 = .ok (.iconst 1, 1) := by decide +kernel
theorem dX10_strike_32 : decode cX10_strike 32 = .ok (.isub, 1) := by decide +kernel
theorem dX10_strike_33 : decode cX10_strike 33 = .ok (.putfield 239, 3) := by decide +kernel
theorem dX10_strike_36 : decode cX10_strike 36 = .ok (.aload_n 0, 1) := by decide +kernel
theorem dX10_strike_37 : decode cX10_strike 37 = .ok (.invokevirtual 269, 3) := by decide +kernel
theorem dX10_strike_40 : decode cX10_strike 40 = .ok (.ireturn, 1) := by decide +kernel
theorem dX10_size_0 : decode cX10_size 0 = .ok (.aload_n 0, 1) := by decide +kernel
theorem dX10_size_1 : decode cX10_size 1 = .ok (.getfield 23, 3) := by decide +kernel
theorem dX10_size_4 : decode cX10_size 4 = .ok (.getfield 94, 3) := by decide +kernel
theorem dX10_size_7 : decode cX10_size 7 = .ok (.astore_n 2, 1) := by decide +kernel
theorem dX10_size_8 : decode cX10_size 8 = .ok (.iload_n 1, 1) := by decide +kernel
theorem dX10_size_9 : decode cX10_size 9 = .ok (.tableswitch 162 0 11 #[63, 68, 73, 78, 83, 96, 109, 122, 130, 141, 152, 157], 63) := by decide +kernel
theorem dX10_size_72 : decode cX10_size 72 = .ok (.aload_n 2, 1) := by decide +kernel
theorem dX10_size_73 : decode cX10_size 73 = .ok (.getfield 205, 3) := by decide +kernel
theorem dX10_size_76 : decode cX10_size 76 = .ok (.ireturn, 1) := by decide +kernel
theorem dX10_size_77 : decode cX10_size 77 = .ok (.aload_n 2, 1) := by decide +kernel
theorem dX10_size_78 : decode cX10_size 78 = .ok (.getfield 288, 3) := by decide +kernel
theorem dX10_size_81 : decode cX10_size 81 = .ok (.ireturn, 1) := by decide +kernel
theorem dX10_size_82 : decode cX10_size 82 = .ok (.aload_n 2, 1) := by decide +kernel
theorem dX10_size_83 : decode cX10_size 83 = .ok (.getfield 110, 3) := by decide +kernel
theorem dX10_size_86 : decode cX10_size 86 = .ok (.ireturn, 1) := by decide +kernel
theorem dX10_size_87 : decode cX10_size 87 = .ok (.aload_n 2, 1) := by decide +kernel
theorem dX10_size_88 : decode cX10_size 88 = .ok (.getfield 169, 3) := by decide +kernel
theorem dX10_size_91 : decode cX10_size 91 = .ok (.ireturn, 1) := by decide +kernel
theorem dX10_size_92 : decode cX10_size 92 = .ok (.aload_n 2, 1) := by decide +kernel
theorem dX10_size_93 : decode cX10_size 93 = .ok (.getfield 291, 3) := by decide +kernel
theorem dX10_size_96 : decode cX10_size 96 = .ok (.ifCond .eq 7, 3) := by decide +kernel
theorem dX10_size_99 : decode cX10_size 99 = .ok (.iconst 1, 1) := by decide +kernel
theorem dX10_size_100 : decode cX10_size 100 = .ok (.goto 4, 3) := by decide +kernel
theorem dX10_size_103 : decode cX10_size 103 = .ok (.iconst 0, 1) := by decide +kernel
theorem dX10_size_104 : decode cX10_size 104 = .ok (.ireturn, 1) := by decide +kernel
theorem dX10_size_105 : decode cX10_size 105 = .ok (.aload_n 2, 1) := by decide +kernel
theorem dX10_size_106 : decode cX10_size 106 = .ok (.getfield 294, 3) := by decide +kernel
theorem dX10_size_109 : decode cX10_size 109 = .ok (.ifCond .eq 7, 3) := by decide +kernel
theorem dX10_size_112 : decode cX10_size 112 = .ok (.iconst 1, 1) := by decide +kernel
theorem dX10_size_113 : decode cX10_size 113 = .ok (.goto 4, 3) := by decide +kernel
theorem dX10_size_116 : decode cX10_size 116 = .ok (.iconst 0, 1) := by decide +kernel
theorem dX10_size_117 : decode cX10_size 117 = .ok (.ireturn, 1) := by decide +kernel
theorem dX10_size_118 : decode cX10_size 118 = .ok (.aload_n 2, 1) := by decide +kernel
theorem dX10_size_119 : decode cX10_size 119 = .ok (.getfield 297, 3) := by decide +kernel
theorem dX10_size_122 : decode cX10_size 122 = .ok (.ifCond .eq 7, 3) := by decide +kernel
theorem dX10_size_125 : decode cX10_size 125 = .ok (.iconst 1, 1) := by decide +kernel
theorem dX10_size_126 : decode cX10_size 126 = .ok (.goto 4, 3) := by decide +kernel
theorem dX10_size_129 : decode cX10_size 129 = .ok (.iconst 0, 1) := by decide +kernel
theorem dX10_size_130 : decode cX10_size 130 = .ok (.ireturn, 1) := by decide +kernel
theorem dX10_size_131 : decode cX10_size 131 = .ok (.aload_n 0, 1) := by decide +kernel
theorem dX10_size_132 : decode cX10_size 132 = .ok (.getfield 23, 3) := by decide +kernel
theorem dX10_size_135 : decode cX10_size 135 = .ok (.getfield 81, 3) := by decide +kernel
theorem dX10_size_138 : decode cX10_size 138 = .ok (.ireturn, 1) := by decide +kernel
theorem dX10_size_139 : decode cX10_size 139 = .ok (.aload_n 0, 1) := by decide +kernel
theorem dX10_size_140 : decode cX10_size 140 = .ok (.getfield 23, 3) := by decide +kernel
theorem dX10_size_143 : decode cX10_size 143 = .ok (.getfield 233, 3) := by decide +kernel
theorem dX10_size_146 : decode cX10_size 146 = .ok (.getfield 239, 3) := by decide +kernel
theorem dX10_size_149 : decode cX10_size 149 = .ok (.ireturn, 1) := by decide +kernel
theorem dX10_size_150 : decode cX10_size 150 = .ok (.aload_n 0, 1) := by decide +kernel
theorem dX10_size_151 : decode cX10_size 151 = .ok (.getfield 23, 3) := by decide +kernel
theorem dX10_size_154 : decode cX10_size 154 = .ok (.getfield 233, 3) := by decide +kernel
theorem dX10_size_157 : decode cX10_size 157 = .ok (.getfield 266, 3) := by decide +kernel
theorem dX10_size_160 : decode cX10_size 160 = .ok (.ireturn, 1) := by decide +kernel
theorem dX10_size_161 : decode cX10_size 161 = .ok (.aload_n 0, 1) := by decide +kernel
theorem dX10_size_162 : decode cX10_size 162 = .ok (.getfield 74, 3) := by decide +kernel
theorem dX10_size_165 : decode cX10_size 165 = .ok (.ireturn, 1) := by decide +kernel
theorem dX10_size_166 : decode cX10_size 166 = .ok (.aload_n 0, 1) := by decide +kernel
theorem dX10_size_167 : decode cX10_size 167 = .ok (.getfield 48, 3) := by decide +kernel
theorem dX10_size_170 : decode cX10_size 170 = .ok (.ireturn, 1) := by decide +kernel
theorem dX10_size_171 : decode cX10_size 171 = .ok (.iconst (-1), 1) := by decide +kernel
theorem dX10_size_172 : decode cX10_size 172 = .ok (.ireturn, 1) := by decide +kernel
theorem dX10_noRule_0 : decode cX10_noRule 0 = .ok (.iload_n 1, 1) := by decide +kernel
theorem dX10_noRule_1 : decode cX10_noRule 1 = .ok (.ifCond .lt 14, 3) := by decide +kernel
theorem dX10_noRule_4 : decode cX10_noRule 4 = .ok (.iload_n 1, 1) := by decide +kernel
theorem dX10_noRule_5 : decode cX10_noRule 5 = .ok (.aload_n 0, 1) := by decide +kernel
theorem dX10_noRule_6 : decode cX10_noRule 6 = .ok (.getfield 23, 3) := by decide +kernel
theorem dX10_noRule_9 : decode cX10_noRule 9 = .ok (.getfield 81, 3) := by decide +kernel
theorem dX10_noRule_12 : decode cX10_noRule 12 = .ok (.if_icmp .lt 7, 3) := by decide +kernel
theorem dX10_noRule_15 : decode cX10_noRule 15 = .ok (.iconst 1, 1) := by decide +kernel
theorem dX10_noRule_16 : decode cX10_noRule 16 = .ok (.goto 4, 3) := by decide +kernel
theorem dX10_noRule_19 : decode cX10_noRule 19 = .ok (.iconst 0, 1) := by decide +kernel
theorem dX10_noRule_20 : decode cX10_noRule 20 = .ok (.ireturn, 1) := by decide +kernel
theorem dX10_words_0 : decode cX10_words 0 = .ok (.aload_n 0, 1) := by decide +kernel
theorem dX10_words_1 : decode cX10_words 1 = .ok (.iload_n 1, 1) := by decide +kernel
theorem dX10_words_2 : decode cX10_words 2 = .ok (.invokevirtual 157, 3) := by decide +kernel
theorem dX10_words_5 : decode cX10_words 5 = .ok (.ifCond .eq 7, 3) := by decide +kernel
theorem dX10_words_8 : decode cX10_words 8 = .ok (.iconst (-1), 1) := by decide +kernel
theorem dX10_words_9 : decode cX10_words 9 = .ok (.goto 12, 3) := by decide +kernel
theorem dX10_words_12 : decode cX10_words 12 = .ok (.aload_n 0, 1) := by decide +kernel
theorem dX10_words_13 : decode cX10_words 13 = .ok (.getfield 23, 3) := by decide +kernel
theorem dX10_words_16 : decode cX10_words 16 = .ok (.getfield 300, 3) := by decide +kernel
theorem dX10_words_19 : decode cX10_words 19 = .ok (.iload_n 1, 1) := by decide +kernel
theorem dX10_words_20 : decode cX10_words 20 = .ok (.iaload, 1) := by decide +kernel
theorem dX10_words_21 : decode cX10_words 21 = .ok (.ireturn, 1) := by decide +kernel
theorem dX10_trouble_0 : decode cX10_trouble 0 = .ok (.aload_n 0, 1) := by decide +kernel
theorem dX10_trouble_1 : decode cX10_trouble 1 = .ok (.getfield 87, 3) := by decide +kernel
theorem dX10_trouble_4 : decode cX10_trouble 4 = .ok (.ireturn, 1) := by decide +kernel
theorem dX12_rowsOf_0 : decode cX12_rowsOf 0 = .ok (.lconst 1, 1) := by decide +kernel
theorem dX12_rowsOf_1 : decode cX12_rowsOf 1 = .ok (.lstore_n 2, 1) := by decide +kernel
theorem dX12_rowsOf_2 : decode cX12_rowsOf 2 = .ok (.iconst 0, 1) := by decide +kernel
theorem dX12_rowsOf_3 : decode cX12_rowsOf 3 = .ok (.istore 4, 2) := by decide +kernel
theorem dX12_rowsOf_5 : decode cX12_rowsOf 5 = .ok (.iload 4, 2) := by decide +kernel
theorem dX12_rowsOf_7 : decode cX12_rowsOf 7 = .ok (.iload_n 1, 1) := by decide +kernel
theorem dX12_rowsOf_8 : decode cX12_rowsOf 8 = .ok (.if_icmp .ge 17, 3) := by decide +kernel
theorem dX12_rowsOf_11 : decode cX12_rowsOf 11 = .ok (.lload_n 2, 1) := by decide +kernel
theorem dX12_rowsOf_12 : decode cX12_rowsOf 12 = .ok (.iload_n 0, 1) := by decide +kernel
theorem dX12_rowsOf_13 : decode cX12_rowsOf 13 = .ok (.iload 4, 2) := by decide +kernel
theorem dX12_rowsOf_15 : decode cX12_rowsOf 15 = .ok (.isub, 1) := by decide +kernel
theorem dX12_rowsOf_16 : decode cX12_rowsOf 16 = .ok (.i2l, 1) := by decide +kernel
theorem dX12_rowsOf_17 : decode cX12_rowsOf 17 = .ok (.lmul, 1) := by decide +kernel
theorem dX12_rowsOf_18 : decode cX12_rowsOf 18 = .ok (.lstore_n 2, 1) := by decide +kernel
theorem dX12_rowsOf_19 : decode cX12_rowsOf 19 = .ok (.iinc 4 1, 3) := by decide +kernel
theorem dX12_rowsOf_22 : decode cX12_rowsOf 22 = .ok (.goto (-17), 3) := by decide +kernel
theorem dX12_rowsOf_25 : decode cX12_rowsOf 25 = .ok (.lload_n 2, 1) := by decide +kernel
theorem dX12_rowsOf_26 : decode cX12_rowsOf 26 = .ok (.lreturn, 1) := by decide +kernel
theorem dX12_setsOf_0 : decode cX12_setsOf 0 = .ok (.iload_n 0, 1) := by decide +kernel
theorem dX12_setsOf_1 : decode cX12_setsOf 1 = .ok (.iload_n 1, 1) := by decide +kernel
theorem dX12_setsOf_2 : decode cX12_setsOf 2 = .ok (.invokestatic 99, 3) := by decide +kernel
theorem dX12_setsOf_5 : decode cX12_setsOf 5 = .ok (.iload_n 1, 1) := by decide +kernel
theorem dX12_setsOf_6 : decode cX12_setsOf 6 = .ok (.iload_n 1, 1) := by decide +kernel
theorem dX12_setsOf_7 : decode cX12_setsOf 7 = .ok (.invokestatic 99, 3) := by decide +kernel
theorem dX12_setsOf_10 : decode cX12_setsOf 10 = .ok (.ldiv, 1) := by decide +kernel
theorem dX12_setsOf_11 : decode cX12_setsOf 11 = .ok (.lreturn, 1) := by decide +kernel
theorem dX11_handsOf_0 : decode cX11_handsOf 0 = .ok (.aload_n 0, 1) := by decide +kernel
theorem dX11_handsOf_1 : decode cX11_handsOf 1 = .ok (.getfield 28, 3) := by decide +kernel
theorem dX11_handsOf_4 : decode cX11_handsOf 4 = .ok (.ifCond .eq 14, 3) := by decide +kernel
theorem dX11_handsOf_7 : decode cX11_handsOf 7 = .ok (.iload_n 1, 1) := by decide +kernel
theorem dX11_handsOf_8 : decode cX11_handsOf 8 = .ok (.aload_n 0, 1) := by decide +kernel
theorem dX11_handsOf_9 : decode cX11_handsOf 9 = .ok (.getfield 32, 3) := by decide +kernel
theorem dX11_handsOf_12 : decode cX11_handsOf 12 = .ok (.invokestatic 36, 3) := by decide +kernel
theorem dX11_handsOf_15 : decode cX11_handsOf 15 = .ok (.goto 11, 3) := by decide +kernel
theorem dX11_handsOf_18 : decode cX11_handsOf 18 = .ok (.iload_n 1, 1) := by decide +kernel
theorem dX11_handsOf_19 : decode cX11_handsOf 19 = .ok (.aload_n 0, 1) := by decide +kernel
theorem dX11_handsOf_20 : decode cX11_handsOf 20 = .ok (.getfield 32, 3) := by decide +kernel
theorem dX11_handsOf_23 : decode cX11_handsOf 23 = .ok (.invokestatic 40, 3) := by decide +kernel
theorem dX11_handsOf_26 : decode cX11_handsOf 26 = .ok (.lreturn, 1) := by decide +kernel
theorem dX11_tilts_0 : decode cX11_tilts 0 = .ok (.aload_n 0, 1) := by decide +kernel
theorem dX11_tilts_1 : decode cX11_tilts 1 = .ok (.getfield 43, 3) := by decide +kernel
theorem dX11_tilts_4 : decode cX11_tilts 4 = .ok (.ifCond .eq 12, 3) := by decide +kernel
theorem dX11_tilts_7 : decode cX11_tilts 7 = .ok (.iconst 1, 1) := by decide +kernel
theorem dX11_tilts_8 : decode cX11_tilts 8 = .ok (.aload_n 0, 1) := by decide +kernel
theorem dX11_tilts_9 : decode cX11_tilts 9 = .ok (.getfield 46, 3) := by decide +kernel
theorem dX11_tilts_12 : decode cX11_tilts 12 = .ok (.ishl, 1) := by decide +kernel
theorem dX11_tilts_13 : decode cX11_tilts 13 = .ok (.goto 4, 3) := by decide +kernel
theorem dX11_tilts_16 : decode cX11_tilts 16 = .ok (.iconst 1, 1) := by decide +kernel
theorem dX11_tilts_17 : decode cX11_tilts 17 = .ok (.ireturn, 1) := by decide +kernel
theorem dX12_thrown_0 : decode cX12_thrown 0 = .ok (.aload_n 0, 1) := by decide +kernel
theorem dX12_thrown_1 : decode cX12_thrown 1 = .ok (.getfield 86, 3) := by decide +kernel
theorem dX12_thrown_4 : decode cX12_thrown 4 = .ok (.ireturn, 1) := by decide +kernel
theorem dX12_refused_0 : decode cX12_refused 0 = .ok (.aload_n 0, 1) := by decide +kernel
theorem dX12_refused_1 : decode cX12_refused 1 = .ok (.iload_n 1, 1) := by decide +kernel
theorem dX12_refused_2 : decode cX12_refused 2 = .ok (.putfield 89, 3) := by decide +kernel
theorem dX12_refused_5 : decode cX12_refused 5 = .ok (.aload_n 0, 1) := by decide +kernel
theorem dX12_refused_6 : decode cX12_refused 6 = .ok (.iconst (-1), 1) := by decide +kernel
theorem dX12_refused_7 : decode cX12_refused 7 = .ok (.putfield 9, 3) := by decide +kernel
theorem dX12_refused_10 : decode cX12_refused 10 = .ok (.iconst (-1), 1) := by decide +kernel
theorem dX12_refused_11 : decode cX12_refused 11 = .ok (.ireturn, 1) := by decide +kernel
theorem dX12_denied_0 : decode cX12_denied 0 = .ok (.aload_n 0, 1) := by decide +kernel
theorem dX12_denied_1 : decode cX12_denied 1 = .ok (.iload_n 1, 1) := by decide +kernel
theorem dX12_denied_2 : decode cX12_denied 2 = .ok (.invokevirtual 92, 3) := by decide +kernel
theorem dX12_denied_5 : decode cX12_denied 5 = .ok (.pop, 1) := by decide +kernel
theorem dX12_denied_6 : decode cX12_denied 6 = .ok (.iconst 0, 1) := by decide +kernel
theorem dX12_denied_7 : decode cX12_denied 7 = .ok (.ireturn, 1) := by decide +kernel
theorem dX12_good_0 : decode cX12_good 0 = .ok (.aload_n 0, 1) := by decide +kernel
theorem dX12_good_1 : decode cX12_good 1 = .ok (.iconst 0, 1) := by decide +kernel
theorem dX12_good_2 : decode cX12_good 2 = .ok (.putfield 89, 3) := by decide +kernel
theorem dX12_good_5 : decode cX12_good 5 = .ok (.aload_n 0, 1) := by decide +kernel
theorem dX12_good_6 : decode cX12_good 6 = .ok (.iconst (-1), 1) := by decide +kernel
theorem dX12_good_7 : decode cX12_good 7 = .ok (.putfield 9, 3) := by decide +kernel
theorem dX12_good_10 : decode cX12_good 10 = .ok (.iload_n 1, 1) := by decide +kernel
theorem dX12_good_11 : decode cX12_good 11 = .ok (.ireturn, 1) := by decide +kernel
theorem dX12_granted_0 : decode cX12_granted 0 = .ok (.aload_n 0, 1) := by decide +kernel
theorem dX12_granted_1 : decode cX12_granted 1 = .ok (.iconst 0, 1) := by decide +kernel
theorem dX12_granted_2 : decode cX12_granted 2 = .ok (.invokevirtual 96, 3) := by decide +kernel
theorem dX12_granted_5 : decode cX12_granted 5 = .ok (.pop, 1) := by decide +kernel
theorem dX12_granted_6 : decode cX12_granted 6 = .ok (.iconst 1, 1) := by decide +kernel
theorem dX12_granted_7 : decode cX12_granted 7 = .ok (.ireturn, 1) := by decide +kernel
theorem dX12_in_0 : decode cX12_in 0 = .ok (.iload_n 0, 1) := by decide +kernel
theorem dX12_in_1 : decode cX12_in 1 = .ok (.iload_n 1, 1) := by decide +kernel
theorem dX12_in_2 : decode cX12_in 2 = .ok (.if_icmp .lt 12, 3) := by decide +kernel
theorem dX12_in_5 : decode cX12_in 5 = .ok (.iload_n 0, 1) := by decide +kernel
theorem dX12_in_6 : decode cX12_in 6 = .ok (.iload_n 2, 1) := by decide +kernel
theorem dX12_in_7 : decode cX12_in 7 = .ok (.if_icmp .gt 7, 3) := by decide +kernel
theorem dX12_in_10 : decode cX12_in 10 = .ok (.iconst 1, 1) := by decide +kernel
theorem dX12_in_11 : decode cX12_in 11 = .ok (.goto 4, 3) := by decide +kernel
theorem dX12_in_14 : decode cX12_in 14 = .ok (.iconst 0, 1) := by decide +kernel
theorem dX12_in_15 : decode cX12_in 15 = .ok (.ireturn, 1) := by decide +kernel
theorem dX12_divisor_0 : decode cX12_divisor 0 = .ok (.iload_n 0, 1) := by decide +kernel
theorem dX12_divisor_1 : decode cX12_divisor 1 = .ok (.istore_n 2, 1) := by decide +kernel
theorem dX12_divisor_2 : decode cX12_divisor 2 = .ok (.iload_n 1, 1) := by decide +kernel
theorem dX12_divisor_3 : decode cX12_divisor 3 = .ok (.istore_n 3, 1) := by decide +kernel
theorem dX12_divisor_4 : decode cX12_divisor 4 = .ok (.iload_n 3, 1) := by decide +kernel
theorem dX12_divisor_5 : decode cX12_divisor 5 = .ok (.ifCond .eq 16, 3) := by decide +kernel
theorem dX12_divisor_8 : decode cX12_divisor 8 = .ok (.iload_n 2, 1) := by decide +kernel
theorem dX12_divisor_9 : decode cX12_divisor 9 = .ok (.iload_n 3, 1) := by decide +kernel
theorem dX12_divisor_10 : decode cX12_divisor 10 = .ok (.irem, 1) := by decide +kernel
theorem dX12_divisor_11 : decode cX12_divisor 11 = .ok (.istore 4, 2) := by decide +kernel
theorem dX12_divisor_13 : decode cX12_divisor 13 = .ok (.iload_n 3, 1) := by decide +kernel
theorem dX12_divisor_14 : decode cX12_divisor 14 = .ok (.istore_n 2, 1) := by decide +kernel
theorem dX12_divisor_15 : decode cX12_divisor 15 = .ok (.iload 4, 2) := by decide +kernel
theorem dX12_divisor_17 : decode cX12_divisor 17 = .ok (.istore_n 3, 1) := by decide +kernel
theorem dX12_divisor_18 : decode cX12_divisor 18 = .ok (.goto (-14), 3) := by decide +kernel
theorem dX12_divisor_21 : decode cX12_divisor 21 = .ok (.iload_n 2, 1) := by decide +kernel
theorem dX12_divisor_22 : decode cX12_divisor 22 = .ok (.ireturn, 1) := by decide +kernel
theorem dX12_byteAt_0 : decode cX12_byteAt 0 = .ok (.iload_n 1, 1) := by decide +kernel
theorem dX12_byteAt_1 : decode cX12_byteAt 1 = .ok (.aload_n 0, 1) := by decide +kernel
theorem dX12_byteAt_2 : decode cX12_byteAt 2 = .ok (.getfield 103, 3) := by decide +kernel
theorem dX12_byteAt_5 : decode cX12_byteAt 5 = .ok (.if_icmp .ge 16, 3) := by decide +kernel
theorem dX12_byteAt_8 : decode cX12_byteAt 8 = .ok (.aload_n 0, 1) := by decide +kernel
theorem dX12_byteAt_9 : decode cX12_byteAt 9 = .ok (.getfield 13, 3) := by decide +kernel
theorem dX12_byteAt_12 : decode cX12_byteAt 12 = .ok (.iload_n 1, 1) := by decide +kernel
theorem dX12_byteAt_13 : decode cX12_byteAt 13 = .ok (.baload, 1) := by decide +kernel
theorem dX12_byteAt_14 : decode cX12_byteAt 14 = .ok (.sipush 255, 3) := by decide +kernel
theorem dX12_byteAt_17 : decode cX12_byteAt 17 = .ok (.iand, 1) := by decide +kernel
theorem dX12_byteAt_18 : decode cX12_byteAt 18 = .ok (.goto 4, 3) := by decide +kernel
theorem dX12_byteAt_21 : decode cX12_byteAt 21 = .ok (.iconst (-1), 1) := by decide +kernel
theorem dX12_byteAt_22 : decode cX12_byteAt 22 = .ok (.ireturn, 1) := by decide +kernel
theorem dX12_isLetter_0 : decode cX12_isLetter 0 = .ok (.iload_n 0, 1) := by decide +kernel
theorem dX12_isLetter_1 : decode cX12_isLetter 1 = .ok (.bipush 97, 2) := by decide +kernel
theorem dX12_isLetter_3 : decode cX12_isLetter 3 = .ok (.if_icmp .lt 13, 3) := by decide +kernel
theorem dX12_isLetter_6 : decode cX12_isLetter 6 = .ok (.iload_n 0, 1) := by decide +kernel
theorem dX12_isLetter_7 : decode cX12_isLetter 7 = .ok (.bipush 122, 2) := by decide +kernel
theorem dX12_isLetter_9 : decode cX12_isLetter 9 = .ok (.if_icmp .gt 7, 3) := by decide +kernel
theorem dX12_isLetter_12 : decode cX12_isLetter 12 = .ok (.iconst 1, 1) := by decide +kernel
theorem dX12_isLetter_13 : decode cX12_isLetter 13 = .ok (.goto 4, 3) := by decide +kernel
theorem dX12_isLetter_16 : decode cX12_isLetter 16 = .ok (.iconst 0, 1) := by decide +kernel
theorem dX12_isLetter_17 : decode cX12_isLetter 17 = .ok (.ireturn, 1) := by decide +kernel
theorem dX12_isDigit_0 : decode cX12_isDigit 0 = .ok (.iload_n 0, 1) := by decide +kernel
theorem dX12_isDigit_1 : decode cX12_isDigit 1 = .ok (.bipush 48, 2) := by decide +kernel
theorem dX12_isDigit_3 : decode cX12_isDigit 3 = .ok (.if_icmp .lt 13, 3) := by decide +kernel
theorem dX12_isDigit_6 : decode cX12_isDigit 6 = .ok (.iload_n 0, 1) := by decide +kernel
theorem dX12_isDigit_7 : decode cX12_isDigit 7 = .ok (.bipush 57, 2) := by decide +kernel
theorem dX12_isDigit_9 : decode cX12_isDigit 9 = .ok (.if_icmp .gt 7, 3) := by decide +kernel
theorem dX12_isDigit_12 : decode cX12_isDigit 12 = .ok (.iconst 1, 1) := by decide +kernel
theorem dX12_isDigit_13 : decode cX12_isDigit 13 = .ok (.goto 4, 3) := by decide +kernel
theorem dX12_isDigit_16 : decode cX12_isDigit 16 = .ok (.iconst 0, 1) := by decide +kernel
theorem dX12_isDigit_17 : decode cX12_isDigit 17 = .ok (.ireturn, 1) := by decide +kernel
set_option maxHeartbeats 4000000 in
set_option maxRecDepth 100000 in
theorem sX10_firstWrong {l : Launch} {D : va_G} {cA : Nat → ClassId} {base : Nat} {sA : Nat → Nat} {r0 : Nat} {r1 : Nat} {h hE : Zh} {rE : Int32} (hf : fX10_firstWrong r0 r1 h = some (rE, hE)) : zC l yX10_firstWrong cX10_firstWrong 3 (some .int) 1 22 D cA base sA [.ref (base + r0), .ref (base + r1)] h (some (.int rE)) hE := by
  refine g_entry RX10 (by decide) rfl (Nat.le_of_ble_eq_true rfl) ?_
  intro p e s m args below meth c X hr
  unfold fX10_firstWrong at hf
  have hf := zlet_n (x := h) rfl hf
  show zG p l e { frames := 1, cells := 0, slots := 0, locals := 22 } s m args below meth c (MQ below (zQ D cA base h hE (some (.int rE))) args s 0 0 (zA base)) 3 D cA base h 0 [(0, .ref (base + r0)), (1, .ref (base + r1))] [] h
  refine g_iconst X (v := 0) dX10_firstWrong_0 (by decide) ?_
  refine g_istore_n X [(2, .int ((0 : Int32))), (0, .ref (base + r0)), (1, .ref (base + r1))] dX10_firstWrong_1 (by decide) rfl ?_
  refine g_sub [1, 2, 0] rfl ?_
  obtain ⟨qq, hlp, hf⟩ := zbd hf
  refine lp_snd (body := (fun q : Int32 × Zh => bX10_firstWrong_2 h r0 r1 q.1 q.2)) (P := (fun q : Int32 × Zh => zG p l e { frames := 1, cells := 0, slots := 0, locals := 22 } s m args below meth c (MQ below (zQ D cA base h hE (some (.int rE))) args s 0 0 (zA base)) 3 D cA base h 2 [(0, .ref (base + r0)), (1, .ref (base + r1)), (2, .int q.1)] [] q.2)) (E := (fun (en : Nat) (q : Int32 × Zh) => if en = 1 then zG p l e { frames := 1, cells := 0, slots := 0, locals := 22 } s m args below meth c (MQ below (zQ D cA base h hE (some (.int rE))) args s 0 0 (zA base)) 3 D cA base h 25 [(2, .int q.1)] [] q.2 else zG p l e { frames := 1, cells := 0, slots := 0, locals := 22 } s m args below meth c (MQ below (zQ D cA base h hE (some (.int rE))) args s 0 0 (zA base)) 3 D cA base h 33 [] [] q.2)) ?_ zB ((0 : Int32), h) qq.1 qq.2 hlp ?_
  · intro q e_2 q_2 hf hc0 hc1
    obtain ⟨x2_2, h_2⟩ := q
    have hf : bX10_firstWrong_2 h r0 r1 x2_2 h_2 = some (e_2, q_2) := hf
    unfold bX10_firstWrong_2 at hf
    show zG p l e { frames := 1, cells := 0, slots := 0, locals := 22 } s m args below meth c (MQ below (zQ D cA base h hE (some (.int rE))) args s 0 0 (zA base)) 3 D cA base h 2 [(0, .ref (base + r0)), (1, .ref (base + r1)), (2, .int x2_2)] [] h_2
    refine g_iload_n X 2 dX10_firstWrong_2 rfl ?_
    refine g_aload_n X 0 dX10_firstWrong_3 rfl ?_
    obtain ⟨hk1, hf⟩ := zite hf
    obtain ⟨r_2, hr_2, hf⟩ := zbd hf
    refine g_get X zf10 hk1 3 (by decide) w_f_RX10_23 rfl (zfv_r hr_2 rfl) dX10_firstWrong_4 ?_
    obtain ⟨hk3, hf⟩ := zite hf
    obtain ⟨r_4, hr_4, hf⟩ := zbd hf
    refine g_get X zf9 hk3 4 (by decide) w_f_RX10_233 rfl (zfv_r hr_4 rfl) dX10_firstWrong_7 ?_
    obtain ⟨hk5, hf⟩ := zite hf
    refine g_get X zf1 hk5 2 (by decide) w_f_RX10_239 rfl rfl dX10_firstWrong_10 ?_
    refine g_icmp_ge X 33 dX10_firstWrong_13 (by decide) (fun hq => ?_) (fun hq => ?_)
    · have hf := zpos hq hf
      cases hf
      have hc1 := hc1 (by decide)
      exact g_sub [] rfl (zun_n (by decide) hc1)
    · have hf := zneg hq hf
      refine g_aload_n X 0 dX10_firstWrong_16 rfl ?_
      refine g_aload_n X 1 dX10_firstWrong_17 rfl ?_
      refine g_iload_n X 2 dX10_firstWrong_18 rfl ?_
      obtain ⟨v7, h6, hch6, hf⟩ := zc2_e hf
      refine g_callV X 2 (sX10_isAgreed hch6) zf10 hk1 ydX10_isAgreed w_ml_RX10_242 w_instanceMethod_X10_isAgreed w_sel_X10_isAgreed w_ini_RX10 w_code_X10_isAgreed (by decide) rfl (st := []) rfl rfl (Nat.le_of_ble_eq_true rfl) dX10_firstWrong_19 ?_
      refine g_if_ne X 27 dX10_firstWrong_22 (by decide) (fun hq => ?_) (fun hq => ?_)
      · have hf := zneg hq hf
        obtain ⟨y8, ey8⟩ : ∃ y : Int32, y = x2_2 + (1 : Int32) := ⟨_, rfl⟩
        have hf := zlet_n ey8 hf
        refine g_iinc X (j := 2) [(2, .int y8), (0, .ref (base + r0)), (1, .ref (base + r1))] dX10_firstWrong_27 rfl (by rw [ey8]; rfl) (by decide) rfl ?_
        refine g_goto X 2 dX10_firstWrong_30 (by decide) ?_
        cases hf
        exact g_sub [1, 2, 0] rfl (hc0 rfl)
      · have hf := zpos hq hf
        cases hf
        have hc1 := hc1 (by decide)
        exact g_sub [2] rfl (zun_p rfl hc1)
  · obtain ⟨ee, x2_k2, h_k2⟩ := qq
    have hf : kX10_firstWrong_2 h ee x2_k2 h_k2 = some (rE, hE) := hf
    unfold kX10_firstWrong_2 at hf
    by_cases hee0 : ee = 1
    · have hf := zpos hee0 hf
      refine zifp hee0 ?_
      show zG p l e { frames := 1, cells := 0, slots := 0, locals := 22 } s m args below meth c (MQ below (zQ D cA base h hE (some (.int rE))) args s 0 0 (zA base)) 3 D cA base h 25 [(2, .int x2_k2)] [] h_k2
      refine g_iload_n X 0 dX10_firstWrong_25 rfl ?_
      obtain ⟨rfl, rfl⟩ := zsm hf
      exact g_iret X hr dX10_firstWrong_26
    have hf := zneg hee0 hf
    refine zifn hee0 ?_
    show zG p l e { frames := 1, cells := 0, slots := 0, locals := 22 } s m args below meth c (MQ below (zQ D cA base h hE (some (.int rE))) args s 0 0 (zA base)) 3 D cA base h 33 [] [] h_k2
    refine g_bipush X (v := -2) dX10_firstWrong_33 (by decide) ?_
    obtain ⟨rfl, rfl⟩ := zsm hf
    exact g_iret X hr dX10_firstWrong_35

set_option maxHeartbeats 4000000 in
set_option maxRecDepth 100000 in
theorem sX10_commonDivisor {l : Launch} {D : va_G} {cA : Nat → ClassId} {base : Nat} {sA : Nat → Nat} {x0 : Int32} {x1 : Int32} {h hE : Zh} {rE : Int32} (hf : fX10_commonDivisor x0 x1 h = some (rE, hE)) : zC l yX10_commonDivisor cX10_commonDivisor 6 (some .int) 1 23 D cA base sA [.int x0, .int x1] h (some (.int rE)) hE := by
  refine g_entry RX10 (by decide) rfl (Nat.le_of_ble_eq_true rfl) ?_
  intro p e s m args below meth c X hr
  unfold fX10_commonDivisor at hf
  have hf := zlet_n (x := h) rfl hf
  show zG p l e { frames := 1, cells := 0, slots := 0, locals := 23 } s m args below meth c (MQ below (zQ D cA base h hE (some (.int rE))) args s 0 0 (zA base)) 6 D cA base h 0 [(0, .int x0), (1, .int x1)] [] h
  refine g_iload_n X 0 dX10_commonDivisor_0 rfl ?_
  refine g_istore_n X [(2, .int x0), (0, .int x0), (1, .int x1)] dX10_commonDivisor_1 (by decide) rfl ?_
  refine g_iload_n X 2 dX10_commonDivisor_2 rfl ?_
  refine g_istore_n X [(3, .int x1), (2, .int x0), (0, .int x0), (1, .int x1)] dX10_commonDivisor_3 (by decide) rfl ?_
  refine g_iconst X (v := 0) dX10_commonDivisor_4 (by decide) ?_
  refine g_istore X [(4, .int ((0 : Int32))), (3, .int x1), (2, .int x0), (0, .int x0), (1, .int x1)] dX10_commonDivisor_5 (by decide) rfl ?_
  refine g_sub [2, 1, 0] rfl ?_
  obtain ⟨qq, hlp, hf⟩ := zbd hf
  refine lp_snd (body := (fun q : Int32 × Int32 × Int32 × Zh => bX10_commonDivisor_7 h q.1 q.2.1 q.2.2.1 q.2.2.2)) (P := (fun q : Int32 × Int32 × Int32 × Zh => zG p l e { frames := 1, cells := 0, slots := 0, locals := 23 } s m args below meth c (MQ below (zQ D cA base h hE (some (.int rE))) args s 0 0 (zA base)) 6 D cA base h 7 [(2, .int q.1), (3, .int q.2.1), (4, .int q.2.2.1)] [] q.2.2.2)) (E := (fun (en : Nat) (q : Int32 × Int32 × Int32 × Zh) => zG p l e { frames := 1, cells := 0, slots := 0, locals := 23 } s m args below meth c (MQ below (zQ D cA base h hE (some (.int rE))) args s 0 0 (zA base)) 6 D cA base h 34 [(2, .int q.1)] [] q.2.2.2)) ?_ zB (x0, (x1, ((0 : Int32), h))) qq.1 qq.2 hlp ?_
  · intro q e_7 q_7 hf hc0 hc1
    obtain ⟨x2_7, x3_7, x4_7, h_7⟩ := q
    have hf : bX10_commonDivisor_7 h x2_7 x3_7 x4_7 h_7 = some (e_7, q_7) := hf
    unfold bX10_commonDivisor_7 at hf
    show zG p l e { frames := 1, cells := 0, slots := 0, locals := 23 } s m args below meth c (MQ below (zQ D cA base h hE (some (.int rE))) args s 0 0 (zA base)) 6 D cA base h 7 [(2, .int x2_7), (3, .int x3_7), (4, .int x4_7)] [] h_7
    refine g_iload X 2 dX10_commonDivisor_7 rfl ?_
    refine g_bipush X (v := 64) dX10_commonDivisor_9 (by decide) ?_
    refine g_icmp_ge X 34 dX10_commonDivisor_11 (by decide) (fun hq => ?_) (fun hq => ?_)
    · have hf := zpos hq hf
      cases hf
      have hc1 := hc1 (by decide)
      exact g_sub [0] rfl hc1
    · have hf := zneg hq hf
      refine g_iload_n X 1 dX10_commonDivisor_14 rfl ?_
      refine g_if_eq X 34 dX10_commonDivisor_15 (by decide) (fun hq => ?_) (fun hq => ?_)
      · have hf := zpos hq hf
        cases hf
        have hc1 := hc1 (by decide)
        exact g_sub [0] rfl hc1
      · have hf := zneg hq hf
        refine g_iload_n X 0 dX10_commonDivisor_18 rfl ?_
        refine g_iload_n X 1 dX10_commonDivisor_19 rfl ?_
        obtain ⟨hn1, hf⟩ := zite hf
        refine g_irem X hn1 dX10_commonDivisor_20 ?_
        refine g_topi (fun y2 ey2 => ?_)
        have hf := zlet_n ey2 hf
        refine g_istore X [(5, .int y2), (2, .int x2_7), (3, .int x3_7), (4, .int x4_7)] dX10_commonDivisor_21 (by decide) rfl ?_
        refine g_iload_n X 2 dX10_commonDivisor_23 rfl ?_
        refine g_istore_n X [(2, .int x3_7), (5, .int y2), (3, .int x3_7), (4, .int x4_7)] dX10_commonDivisor_24 (by decide) rfl ?_
        refine g_iload X 1 dX10_commonDivisor_25 rfl ?_
        refine g_istore_n X [(3, .int y2), (2, .int x3_7), (5, .int y2), (4, .int x4_7)] dX10_commonDivisor_27 (by decide) rfl ?_
        obtain ⟨y3, ey3⟩ : ∃ y : Int32, y = x4_7 + (1 : Int32) := ⟨_, rfl⟩
        have hf := zlet_n ey3 hf
        refine g_iinc X (j := 3) [(4, .int y3), (3, .int y2), (2, .int x3_7), (5, .int y2)] dX10_commonDivisor_28 rfl (by rw [ey3]; rfl) (by decide) rfl ?_
        refine g_goto X 7 dX10_commonDivisor_31 (by decide) ?_
        cases hf
        exact g_sub [2, 1, 0] rfl (hc0 rfl)
  · obtain ⟨ee, x2_k7, x3_k7, x4_k7, h_k7⟩ := qq
    have hf : kX10_commonDivisor_7 h ee x2_k7 x3_k7 x4_k7 h_k7 = some (rE, hE) := hf
    unfold kX10_commonDivisor_7 at hf
    show zG p l e { frames := 1, cells := 0, slots := 0, locals := 23 } s m args below meth c (MQ below (zQ D cA base h hE (some (.int rE))) args s 0 0 (zA base)) 6 D cA base h 34 [(2, .int x2_k7)] [] h_k7
    refine g_iload_n X 0 dX10_commonDivisor_34 rfl ?_
    refine g_iconst X (v := 1) dX10_commonDivisor_35 (by decide) ?_
    refine g_mmax X w_m1_RX10_255 w_m2_mmax w_m3 w_m4_mmax (Nat.le_of_ble_eq_true rfl) (Nat.le_of_ble_eq_true rfl) dX10_commonDivisor_36 ?_
    obtain ⟨rfl, rfl⟩ := zsm hf
    exact g_iret X hr dX10_commonDivisor_39

set_option maxHeartbeats 4000000 in
set_option maxRecDepth 100000 in
theorem sX10_deny {l : Launch} {D : va_G} {cA : Nat → ClassId} {base : Nat} {sA : Nat → Nat} {r0 : Nat} {x1 : Int32} {h hE : Zh} {rE : Int32} (hf : fX10_deny r0 x1 h = some (rE, hE)) : zC l yX10_deny cX10_deny 2 (some .boolean) 0 0 D cA base sA [.ref (base + r0), .int x1] h (some (.int rE)) hE := by
  refine g_entry RX10 (by decide) rfl (Nat.le_of_ble_eq_true rfl) ?_
  intro p e s m args below meth c X hr
  unfold fX10_deny at hf
  have hf := zlet_n (x := h) rfl hf
  show zG p l e { frames := 0, cells := 0, slots := 0, locals := 0 } s m args below meth c (MQ below (zQ D cA base h hE (some (.int rE))) args s 0 0 (zA base)) 2 D cA base h 0 [(0, .ref (base + r0)), (1, .int x1)] [] h
  refine g_aload_n X 0 dX10_deny_0 rfl ?_
  refine g_iload_n X 1 dX10_deny_1 rfl ?_
  obtain ⟨hk1, hf⟩ := zite hf
  refine g_putI X zf10 hk1 8 (by decide) w_f_RX10_87 rfl rfl rfl dX10_deny_2 ?_
  refine g_hp (fun h2 eh2 => ?_)
  have hf := zlet_n eh2 hf
  refine g_iconst X (v := 0) dX10_deny_5 (by decide) ?_
  obtain ⟨rfl, rfl⟩ := zsm hf
  exact g_zret X (Or.inl rfl) hr dX10_deny_6

set_option maxHeartbeats 4000000 in
set_option maxRecDepth 100000 in
theorem sX10_grant {l : Launch} {D : va_G} {cA : Nat → ClassId} {base : Nat} {sA : Nat → Nat} {r0 : Nat} {h hE : Zh} {rE : Int32} (hf : fX10_grant r0 h = some (rE, hE)) : zC l yX10_grant cX10_grant 1 (some .boolean) 0 0 D cA base sA [.ref (base + r0)] h (some (.int rE)) hE := by
  refine g_entry RX10 (by decide) rfl (Nat.le_of_ble_eq_true rfl) ?_
  intro p e s m args below meth c X hr
  unfold fX10_grant at hf
  have hf := zlet_n (x := h) rfl hf
  show zG p l e { frames := 0, cells := 0, slots := 0, locals := 0 } s m args below meth c (MQ below (zQ D cA base h hE (some (.int rE))) args s 0 0 (zA base)) 1 D cA base h 0 [(0, .ref (base + r0))] [] h
  refine g_aload_n X 0 dX10_grant_0 rfl ?_
  refine g_iconst X (v := 0) dX10_grant_1 (by decide) ?_
  obtain ⟨hk1, hf⟩ := zite hf
  refine g_putI X zf10 hk1 8 (by decide) w_f_RX10_87 rfl rfl rfl dX10_grant_2 ?_
  refine g_hp (fun h2 eh2 => ?_)
  have hf := zlet_n eh2 hf
  refine g_iconst X (v := 1) dX10_grant_5 (by decide) ?_
  obtain ⟨rfl, rfl⟩ := zsm hf
  exact g_zret X (Or.inr rfl) hr dX10_grant_6

set_option maxHeartbeats 4000000 in
set_option maxRecDepth 100000 in
theorem sX10_seed {l : Launch} {D : va_G} {cA : Nat → ClassId} {base : Nat} {sA : Nat → Nat} {r0 : Nat} {x1 : Int32} {h hE : Zh} {rE : Int32} (hf : fX10_seed r0 x1 h = some (rE, hE)) : zC l yX10_seed cX10_seed 2 (some .boolean) 1 21 D cA base sA [.ref (base + r0), .int x1] h (some (.int rE)) hE := by
  refine g_entry RX10 (by decide) rfl (Nat.le_of_ble_eq_true rfl) ?_
  intro p e s m args below meth c X hr
  unfold fX10_seed at hf
  have hf := zlet_n (x := h) rfl hf
  show zG p l e { frames := 1, cells := 0, slots := 0, locals := 21 } s m args below meth c (MQ below (zQ D cA base h hE (some (.int rE))) args s 0 0 (zA base)) 2 D cA base h 0 [(0, .ref (base + r0)), (1, .int x1)] [] h
  refine g_aload_n X 0 dX10_seed_0 rfl ?_
  obtain ⟨hk1, hf⟩ := zite hf
  obtain ⟨r_2, hr_2, hf⟩ := zbd hf
  refine g_get X zf10 hk1 3 (by decide) w_f_RX10_23 rfl (zfv_r hr_2 rfl) dX10_seed_1 ?_
  obtain ⟨hk3, hf⟩ := zite hf
  refine g_get X zf9 hk3 0 (by decide) w_f_RX10_90 rfl rfl dX10_seed_4 ?_
  refine g_if_ne X 16 dX10_seed_7 (by decide) (fun hq => ?_) (fun hq => ?_)
  · have hf := zneg hq hf
    refine g_iload_n X 1 dX10_seed_16 rfl ?_
    refine g_if_lt X 27 dX10_seed_17 (by decide) (fun hq => ?_) (fun hq => ?_)
    · have hf := zpos hq hf
      refine g_aload_n X 0 dX10_seed_27 rfl ?_
      refine g_iconst X (v := 2) dX10_seed_28 (by decide) ?_
      obtain ⟨v5, h4, hch4, hf⟩ := zc2_e hf
      refine g_callV X 1 (sX10_deny hch4) zf10 hk1 ydX10_deny w_ml_RX10_262 w_instanceMethod_X10_deny w_sel_X10_deny w_ini_RX10 w_code_X10_deny (by decide) rfl (st := []) rfl rfl (Nat.le_of_ble_eq_true rfl) dX10_seed_29 ?_
      obtain ⟨hb6, hf⟩ := zite hf
      obtain ⟨rfl, rfl⟩ := zsm hf
      exact g_zret X hb6 hr dX10_seed_32
    · have hf := zneg hq hf
      refine g_iload_n X 1 dX10_seed_20 rfl ?_
      refine g_ldcw X w_c_RX10_265 dX10_seed_21 ?_
      refine g_icmp_le X 33 dX10_seed_24 (by decide) (fun hq => ?_) (fun hq => ?_)
      · have hf := zpos hq hf
        refine g_aload_n X 0 dX10_seed_33 rfl ?_
        obtain ⟨r_7, hr_7, hf⟩ := zbd hf
        refine g_get X zf10 hk1 3 (by decide) w_f_RX10_23 rfl (zfv_r hr_7 rfl) dX10_seed_34 ?_
        obtain ⟨hk8, hf⟩ := zite hf
        obtain ⟨r_9, hr_9, hf⟩ := zbd hf
        refine g_get X zf9 hk8 4 (by decide) w_f_RX10_233 rfl (zfv_r hr_9 rfl) dX10_seed_37 ?_
        refine g_iload_n X 1 dX10_seed_40 rfl ?_
        obtain ⟨hk10, hf⟩ := zite hf
        refine g_putI X zf1 hk10 3 (by decide) w_f_RX10_266 rfl rfl rfl dX10_seed_41 ?_
        refine g_hp (fun h11 eh11 => ?_)
        have hf := zlet_n eh11 hf
        refine g_aload_n X 0 dX10_seed_44 rfl ?_
        obtain ⟨v13, h12, hch12, hf⟩ := zc2_e hf
        refine g_callV X 0 (sX10_grant hch12) zf10 hk1 ydX10_grant w_ml_RX10_269 w_instanceMethod_X10_grant w_sel_X10_grant w_ini_RX10 w_code_X10_grant (by decide) rfl (st := []) rfl rfl (Nat.le_of_ble_eq_true rfl) dX10_seed_45 ?_
        obtain ⟨hb14, hf⟩ := zite hf
        obtain ⟨rfl, rfl⟩ := zsm hf
        exact g_zret X hb14 hr dX10_seed_48
      · have hf := zneg hq hf
        refine g_aload_n X 0 dX10_seed_27 rfl ?_
        refine g_iconst X (v := 2) dX10_seed_28 (by decide) ?_
        obtain ⟨v16, h15, hch15, hf⟩ := zc2_e hf
        refine g_callV X 1 (sX10_deny hch15) zf10 hk1 ydX10_deny w_ml_RX10_262 w_instanceMethod_X10_deny w_sel_X10_deny w_ini_RX10 w_code_X10_deny (by decide) rfl (st := []) rfl rfl (Nat.le_of_ble_eq_true rfl) dX10_seed_29 ?_
        obtain ⟨hb17, hf⟩ := zite hf
        obtain ⟨rfl, rfl⟩ := zsm hf
        exact g_zret X hb17 hr dX10_seed_32
  · have hf := zpos hq hf
    refine g_aload_n X 0 dX10_seed_10 rfl ?_
    refine g_iconst X (v := 1) dX10_seed_11 (by decide) ?_
    obtain ⟨v19, h18, hch18, hf⟩ := zc2_e hf
    refine g_callV X 1 (sX10_deny hch18) zf10 hk1 ydX10_deny w_ml_RX10_262 w_instanceMethod_X10_deny w_sel_X10_deny w_ini_RX10 w_code_X10_deny (by decide) rfl (st := []) rfl rfl (Nat.le_of_ble_eq_true rfl) dX10_seed_12 ?_
    obtain ⟨hb20, hf⟩ := zite hf
    obtain ⟨rfl, rfl⟩ := zsm hf
    exact g_zret X hb20 hr dX10_seed_15

set_option maxHeartbeats 4000000 in
set_option maxRecDepth 100000 in
theorem sX10_draw {l : Launch} {D : va_G} {cA : Nat → ClassId} {base : Nat} {sA : Nat → Nat} {r0 : Nat} {h hE : Zh} {rE : Int32} (hf : fX10_draw r0 h = some (rE, hE)) : zC l yX10_draw cX10_draw 1 (some .int) 1 21 D cA base sA [.ref (base + r0)] h (some (.int rE)) hE := by
  refine g_entry RX10 (by decide) rfl (Nat.le_of_ble_eq_true rfl) ?_
  intro p e s m args below meth c X hr
  unfold fX10_draw at hf
  have hf := zlet_n (x := h) rfl hf
  show zG p l e { frames := 1, cells := 0, slots := 0, locals := 21 } s m args below meth c (MQ below (zQ D cA base h hE (some (.int rE))) args s 0 0 (zA base)) 1 D cA base h 0 [(0, .ref (base + r0))] [] h
  refine g_aload_n X 0 dX10_draw_0 rfl ?_
  obtain ⟨hk1, hf⟩ := zite hf
  obtain ⟨r_2, hr_2, hf⟩ := zbd hf
  refine g_get X zf10 hk1 3 (by decide) w_f_RX10_23 rfl (zfv_r hr_2 rfl) dX10_draw_1 ?_
  obtain ⟨hk3, hf⟩ := zite hf
  refine g_get X zf9 hk3 0 (by decide) w_f_RX10_90 rfl rfl dX10_draw_4 ?_
  refine g_if_ne X 16 dX10_draw_7 (by decide) (fun hq => ?_) (fun hq => ?_)
  · have hf := zneg hq hf
    refine g_aload_n X 0 dX10_draw_16 rfl ?_
    obtain ⟨r_4, hr_4, hf⟩ := zbd hf
    refine g_get X zf10 hk1 3 (by decide) w_f_RX10_23 rfl (zfv_r hr_4 rfl) dX10_draw_17 ?_
    obtain ⟨hk5, hf⟩ := zite hf
    obtain ⟨r_6, hr_6, hf⟩ := zbd hf
    refine g_get X zf9 hk5 4 (by decide) w_f_RX10_233 rfl (zfv_r hr_6 rfl) dX10_draw_20 ?_
    refine g_bipush X (v := 75) dX10_draw_23 (by decide) ?_
    refine g_aload_n X 0 dX10_draw_25 rfl ?_
    obtain ⟨r_7, hr_7, hf⟩ := zbd hf
    refine g_get X zf10 hk1 3 (by decide) w_f_RX10_23 rfl (zfv_r hr_7 rfl) dX10_draw_26 ?_
    obtain ⟨hk8, hf⟩ := zite hf
    obtain ⟨r_9, hr_9, hf⟩ := zbd hf
    refine g_get X zf9 hk8 4 (by decide) w_f_RX10_233 rfl (zfv_r hr_9 rfl) dX10_draw_29 ?_
    obtain ⟨hk10, hf⟩ := zite hf
    refine g_get X zf1 hk10 3 (by decide) w_f_RX10_266 rfl rfl dX10_draw_32 ?_
    refine g_imul X dX10_draw_35 ?_
    refine g_bipush X (v := 74) dX10_draw_36 (by decide) ?_
    refine g_iadd X dX10_draw_38 ?_
    refine g_ldcw X w_c_RX10_273 dX10_draw_39 ?_
    obtain ⟨hn11, hf⟩ := zite hf
    refine g_irem X hn11 dX10_draw_42 ?_
    obtain ⟨hk12, hf⟩ := zite hf
    refine g_putI X zf1 hk12 3 (by decide) w_f_RX10_266 rfl rfl rfl dX10_draw_43 ?_
    refine g_hp (fun h13 eh13 => ?_)
    have hf := zlet_n eh13 hf
    refine g_aload_n X 0 dX10_draw_46 rfl ?_
    refine g_aload_n X 0 dX10_draw_47 rfl ?_
    obtain ⟨r_14, hr_14, hf⟩ := zbd hf
    refine g_get X zf10 hk1 3 (by decide) w_f_RX10_23 rfl (zfv_r hr_14 rfl) dX10_draw_48 ?_
    obtain ⟨hk15, hf⟩ := zite hf
    obtain ⟨r_16, hr_16, hf⟩ := zbd hf
    refine g_get X zf9 hk15 4 (by decide) w_f_RX10_233 rfl (zfv_r hr_16 rfl) dX10_draw_51 ?_
    obtain ⟨hk17, hf⟩ := zite hf
    refine g_get X zf1 hk17 3 (by decide) w_f_RX10_266 rfl rfl dX10_draw_54 ?_
    refine g_aload_n X 0 dX10_draw_57 rfl ?_
    obtain ⟨r_18, hr_18, hf⟩ := zbd hf
    refine g_get X zf10 hk1 3 (by decide) w_f_RX10_23 rfl (zfv_r hr_18 rfl) dX10_draw_58 ?_
    obtain ⟨hk19, hf⟩ := zite hf
    obtain ⟨r_20, hr_20, hf⟩ := zbd hf
    refine g_get X zf9 hk19 1 (by decide) w_f_RX10_94 rfl (zfv_r hr_20 rfl) dX10_draw_61 ?_
    obtain ⟨hk21, hf⟩ := zite hf
    refine g_get X zf0 hk21 9 (by decide) w_f_RX10_98 rfl rfl dX10_draw_64 ?_
    obtain ⟨hn22, hf⟩ := zite hf
    refine g_irem X hn22 dX10_draw_67 ?_
    obtain ⟨v24, h23, hch23, hf⟩ := zc2_e hf
    refine g_callV X 1 (sX10_answer hch23) zf10 hk1 ydX10_answer w_ml_RX10_84 w_instanceMethod_X10_answer w_sel_X10_answer w_ini_RX10 w_code_X10_answer (by decide) rfl (st := []) rfl rfl (Nat.le_of_ble_eq_true rfl) dX10_draw_68 ?_
    obtain ⟨rfl, rfl⟩ := zsm hf
    exact g_iret X hr dX10_draw_71
  · have hf := zpos hq hf
    refine g_aload_n X 0 dX10_draw_10 rfl ?_
    refine g_iconst X (v := 1) dX10_draw_11 (by decide) ?_
    obtain ⟨v26, h25, hch25, hf⟩ := zc2_e hf
    refine g_callV X 1 (sX10_refuse hch25) zf10 hk1 ydX10_refuse w_ml_RX10_56 w_instanceMethod_X10_refuse w_sel_X10_refuse w_ini_RX10 w_code_X10_refuse (by decide) rfl (st := []) rfl rfl (Nat.le_of_ble_eq_true rfl) dX10_draw_12 ?_
    obtain ⟨rfl, rfl⟩ := zsm hf
    exact g_iret X hr dX10_draw_15

set_option maxHeartbeats 4000000 in
set_option maxRecDepth 100000 in
theorem sX10_strike {l : Launch} {D : va_G} {cA : Nat → ClassId} {base : Nat} {sA : Nat → Nat} {r0 : Nat} {h hE : Zh} {rE : Int32} (hf : fX10_strike r0 h = some (rE, hE)) : zC l yX10_strike cX10_strike 1 (some .boolean) 1 21 D cA base sA [.ref (base + r0)] h (some (.int rE)) hE := by
  refine g_entry RX10 (by decide) rfl (Nat.le_of_ble_eq_true rfl) ?_
  intro p e s m args below meth c X hr
  unfold fX10_strike at hf
  have hf := zlet_n (x := h) rfl hf
  show zG p l e { frames := 1, cells := 0, slots := 0, locals := 21 } s m args below meth c (MQ below (zQ D cA base h hE (some (.int rE))) args s 0 0 (zA base)) 1 D cA base h 0 [(0, .ref (base + r0))] [] h
  refine g_aload_n X 0 dX10_strike_0 rfl ?_
  obtain ⟨hk1, hf⟩ := zite hf
  obtain ⟨r_2, hr_2, hf⟩ := zbd hf
  refine g_get X zf10 hk1 3 (by decide) w_f_RX10_23 rfl (zfv_r hr_2 rfl) dX10_strike_1 ?_
  obtain ⟨hk3, hf⟩ := zite hf
  obtain ⟨r_4, hr_4, hf⟩ := zbd hf
  refine g_get X zf9 hk3 4 (by decide) w_f_RX10_233 rfl (zfv_r hr_4 rfl) dX10_strike_4 ?_
  obtain ⟨hk5, hf⟩ := zite hf
  refine g_get X zf1 hk5 2 (by decide) w_f_RX10_239 rfl rfl dX10_strike_7 ?_
  refine g_if_ne X 20 dX10_strike_10 (by decide) (fun hq => ?_) (fun hq => ?_)
  · have hf := zneg hq hf
    refine g_aload_n X 0 dX10_strike_20 rfl ?_
    obtain ⟨r_6, hr_6, hf⟩ := zbd hf
    refine g_get X zf10 hk1 3 (by decide) w_f_RX10_23 rfl (zfv_r hr_6 rfl) dX10_strike_21 ?_
    obtain ⟨hk7, hf⟩ := zite hf
    obtain ⟨r_8, hr_8, hf⟩ := zbd hf
    refine g_get X zf9 hk7 4 (by decide) w_f_RX10_233 rfl (zfv_r hr_8 rfl) dX10_strike_24 ?_
    refine g_dup X dX10_strike_27 rfl ?_
    obtain ⟨hk9, hf⟩ := zite hf
    refine g_get X zf1 hk9 2 (by decide) w_f_RX10_239 rfl rfl dX10_strike_28 ?_
    refine g_iconst X (v := 1) dX10_strike_31 (by decide) ?_
    refine g_isub X dX10_strike_32 ?_
    refine g_putI X zf1 hk9 2 (by decide) w_f_RX10_239 rfl rfl rfl dX10_strike_33 ?_
    refine g_hp (fun h10 eh10 => ?_)
    have hf := zlet_n eh10 hf
    refine g_aload_n X 0 dX10_strike_36 rfl ?_
    obtain ⟨v12, h11, hch11, hf⟩ := zc2_e hf
    refine g_callV X 0 (sX10_grant hch11) zf10 hk1 ydX10_grant w_ml_RX10_269 w_instanceMethod_X10_grant w_sel_X10_grant w_ini_RX10 w_code_X10_grant (by decide) rfl (st := []) rfl rfl (Nat.le_of_ble_eq_true rfl) dX10_strike_37 ?_
    obtain ⟨hb13, hf⟩ := zite hf
    obtain ⟨rfl, rfl⟩ := zsm hf
    exact g_zret X hb13 hr dX10_strike_40
  · have hf := zpos hq hf
    refine g_aload_n X 0 dX10_strike_13 rfl ?_
    refine g_bipush X (v := 6) dX10_strike_14 (by decide) ?_
    obtain ⟨v15, h14, hch14, hf⟩ := zc2_e hf
    refine g_callV X 1 (sX10_deny hch14) zf10 hk1 ydX10_deny w_ml_RX10_262 w_instanceMethod_X10_deny w_sel_X10_deny w_ini_RX10 w_code_X10_deny (by decide) rfl (st := []) rfl rfl (Nat.le_of_ble_eq_true rfl) dX10_strike_16 ?_
    obtain ⟨hb16, hf⟩ := zite hf
    obtain ⟨rfl, rfl⟩ := zsm hf
    exact g_zret X hb16 hr dX10_strike_19

set_option maxHeartbeats 4000000 in
set_option maxRecDepth 100000 in
theorem sX10_size {l : Launch} {D : va_G} {cA : Nat → ClassId} {base : Nat} {sA : Nat → Nat} {r0 : Nat} {x1 : Int32} {h hE : Zh} {rE : Int32} (hf : fX10_size r0 x1 h = some (rE, hE)) : zC l yX10_size cX10_size 3 (some .int) 0 0 D cA base sA [.ref (base + r0), .int x1] h (some (.int rE)) hE := by
  refine g_entry RX10 (by decide) rfl (Nat.le_of_ble_eq_true rfl) ?_
  intro p e s m args below meth c X hr
  unfold fX10_size at hf
  have hf := zlet_n (x := h) rfl hf
  show zG p l e { frames := 0, cells := 0, slots := 0, locals := 0 } s m args below meth c (MQ below (zQ D cA base h hE (some (.int rE))) args s 0 0 (zA base)) 3 D cA base h 0 [(0, .ref (base + r0)), (1, .int x1)] [] h
  refine g_aload_n X 0 dX10_size_0 rfl ?_
  obtain ⟨hk1, hf⟩ := zite hf
  obtain ⟨r_2, hr_2, hf⟩ := zbd hf
  refine g_get X zf10 hk1 3 (by decide) w_f_RX10_23 rfl (zfv_r hr_2 rfl) dX10_size_1 ?_
  obtain ⟨hk3, hf⟩ := zite hf
  obtain ⟨r_4, hr_4, hf⟩ := zbd hf
  refine g_get X zf9 hk3 1 (by decide) w_f_RX10_94 rfl (zfv_r hr_4 rfl) dX10_size_4 ?_
  refine g_astore_n X [(2, .ref (base + r_4)), (0, .ref (base + r0)), (1, .int x1)] dX10_size_7 (by decide) rfl ?_
  refine g_iload_n X 2 dX10_size_8 rfl ?_
  by_cases hs6 : x1 = 0
  · have hf := zpos hs6 hf
    refine g_tswIn X 72 dX10_size_9 (by rw [hs6]; decide) (by rw [hs6]; decide) (by rw [hs6]; rfl) (by decide) ?_
    refine g_aload_n X 0 dX10_size_72 rfl ?_
    obtain ⟨hk5, hf⟩ := zite hf
    refine g_get X zf0 hk5 0 (by decide) w_f_RX10_205 rfl rfl dX10_size_73 ?_
    obtain ⟨rfl, rfl⟩ := zsm hf
    exact g_iret X hr dX10_size_76
  have hf := zneg hs6 hf
  have ehs6 := lv_neT hs6 (a := 0) (by decide)
  by_cases hs8 : x1 = 1
  · have hf := zpos hs8 hf
    refine g_tswIn X 77 dX10_size_9 (by rw [hs8]; decide) (by rw [hs8]; decide) (by rw [hs8]; rfl) (by decide) ?_
    refine g_aload_n X 0 dX10_size_77 rfl ?_
    obtain ⟨hk7, hf⟩ := zite hf
    refine g_get X zf0 hk7 1 (by decide) w_f_RX10_288 rfl rfl dX10_size_78 ?_
    obtain ⟨rfl, rfl⟩ := zsm hf
    exact g_iret X hr dX10_size_81
  have hf := zneg hs8 hf
  have ehs8 := lv_neT hs8 (a := 1) (by decide)
  by_cases hs10 : x1 = 2
  · have hf := zpos hs10 hf
    refine g_tswIn X 82 dX10_size_9 (by rw [hs10]; decide) (by rw [hs10]; decide) (by rw [hs10]; rfl) (by decide) ?_
    refine g_aload_n X 0 dX10_size_82 rfl ?_
    obtain ⟨hk9, hf⟩ := zite hf
    refine g_get X zf0 hk9 3 (by decide) w_f_RX10_110 rfl rfl dX10_size_83 ?_
    obtain ⟨rfl, rfl⟩ := zsm hf
    exact g_iret X hr dX10_size_86
  have hf := zneg hs10 hf
  have ehs10 := lv_neT hs10 (a := 2) (by decide)
  by_cases hs12 : x1 = 3
  · have hf := zpos hs12 hf
    refine g_tswIn X 87 dX10_size_9 (by rw [hs12]; decide) (by rw [hs12]; decide) (by rw [hs12]; rfl) (by decide) ?_
    refine g_aload_n X 0 dX10_size_87 rfl ?_
    obtain ⟨hk11, hf⟩ := zite hf
    refine g_get X zf0 hk11 4 (by decide) w_f_RX10_169 rfl rfl dX10_size_88 ?_
    obtain ⟨rfl, rfl⟩ := zsm hf
    exact g_iret X hr dX10_size_91
  have hf := zneg hs12 hf
  have ehs12 := lv_neT hs12 (a := 3) (by decide)
  by_cases hs14 : x1 = 4
  · have hf := zpos hs14 hf
    refine g_tswIn X 92 dX10_size_9 (by rw [hs14]; decide) (by rw [hs14]; decide) (by rw [hs14]; rfl) (by decide) ?_
    refine g_aload_n X 0 dX10_size_92 rfl ?_
    obtain ⟨hk13, hf⟩ := zite hf
    refine g_get X zf0 hk13 6 (by decide) w_f_RX10_291 rfl rfl dX10_size_93 ?_
    refine g_if_eq X 103 dX10_size_96 (by decide) (fun hq => ?_) (fun hq => ?_)
    · have hf := zpos hq hf
      refine g_iconst X (v := 0) dX10_size_103 (by decide) ?_
      obtain ⟨rfl, rfl⟩ := zsm hf
      exact g_iret X hr dX10_size_104
    · have hf := zneg hq hf
      refine g_iconst X (v := 1) dX10_size_99 (by decide) ?_
      refine g_goto X 104 dX10_size_100 (by decide) ?_
      obtain ⟨rfl, rfl⟩ := zsm hf
      exact g_iret X hr dX10_size_104
  have hf := zneg hs14 hf
  have ehs14 := lv_neT hs14 (a := 4) (by decide)
  by_cases hs16 : x1 = 5
  · have hf := zpos hs16 hf
    refine g_tswIn X 105 dX10_size_9 (by rw [hs16]; decide) (by rw [hs16]; decide) (by rw [hs16]; rfl) (by decide) ?_
    refine g_aload_n X 0 dX10_size_105 rfl ?_
    obtain ⟨hk15, hf⟩ := zite hf
    refine g_get X zf0 hk15 7 (by decide) w_f_RX10_294 rfl rfl dX10_size_106 ?_
    refine g_if_eq X 116 dX10_size_109 (by decide) (fun hq => ?_) (fun hq => ?_)
    · have hf := zpos hq hf
      refine g_iconst X (v := 0) dX10_size_116 (by decide) ?_
      obtain ⟨rfl, rfl⟩ := zsm hf
      exact g_iret X hr dX10_size_117
    · have hf := zneg hq hf
      refine g_iconst X (v := 1) dX10_size_112 (by decide) ?_
      refine g_goto X 117 dX10_size_113 (by decide) ?_
      obtain ⟨rfl, rfl⟩ := zsm hf
      exact g_iret X hr dX10_size_117
  have hf := zneg hs16 hf
  have ehs16 := lv_neT hs16 (a := 5) (by decide)
  by_cases hs18 : x1 = 6
  · have hf := zpos hs18 hf
    refine g_tswIn X 118 dX10_size_9 (by rw [hs18]; decide) (by rw [hs18]; decide) (by rw [hs18]; rfl) (by decide) ?_
    refine g_aload_n X 0 dX10_size_118 rfl ?_
    obtain ⟨hk17, hf⟩ := zite hf
    refine g_get X zf0 hk17 8 (by decide) w_f_RX10_297 rfl rfl dX10_size_119 ?_
    refine g_if_eq X 129 dX10_size_122 (by decide) (fun hq => ?_) (fun hq => ?_)
    · have hf := zpos hq hf
      refine g_iconst X (v := 0) dX10_size_129 (by decide) ?_
      obtain ⟨rfl, rfl⟩ := zsm hf
      exact g_iret X hr dX10_size_130
    · have hf := zneg hq hf
      refine g_iconst X (v := 1) dX10_size_125 (by decide) ?_
      refine g_goto X 130 dX10_size_126 (by decide) ?_
      obtain ⟨rfl, rfl⟩ := zsm hf
      exact g_iret X hr dX10_size_130
  have hf := zneg hs18 hf
  have ehs18 := lv_neT hs18 (a := 6) (by decide)
  by_cases hs21 : x1 = 7
  · have hf := zpos hs21 hf
    refine g_tswIn X 131 dX10_size_9 (by rw [hs21]; decide) (by rw [hs21]; decide) (by rw [hs21]; rfl) (by decide) ?_
    refine g_aload_n X 1 dX10_size_131 rfl ?_
    obtain ⟨r_19, hr_19, hf⟩ := zbd hf
    refine g_get X zf10 hk1 3 (by decide) w_f_RX10_23 rfl (zfv_r hr_19 rfl) dX10_size_132 ?_
    obtain ⟨hk20, hf⟩ := zite hf
    refine g_get X zf9 hk20 3 (by decide) w_f_RX10_81 rfl rfl dX10_size_135 ?_
    obtain ⟨rfl, rfl⟩ := zsm hf
    exact g_iret X hr dX10_size_138
  have hf := zneg hs21 hf
  have ehs21 := lv_neT hs21 (a := 7) (by decide)
  by_cases hs26 : x1 = 8
  · have hf := zpos hs26 hf
    refine g_tswIn X 139 dX10_size_9 (by rw [hs26]; decide) (by rw [hs26]; decide) (by rw [hs26]; rfl) (by decide) ?_
    refine g_aload_n X 1 dX10_size_139 rfl ?_
    obtain ⟨r_22, hr_22, hf⟩ := zbd hf
    refine g_get X zf10 hk1 3 (by decide) w_f_RX10_23 rfl (zfv_r hr_22 rfl) dX10_size_140 ?_
    obtain ⟨hk23, hf⟩ := zite hf
    obtain ⟨r_24, hr_24, hf⟩ := zbd hf
    refine g_get X zf9 hk23 4 (by decide) w_f_RX10_233 rfl (zfv_r hr_24 rfl) dX10_size_143 ?_
    obtain ⟨hk25, hf⟩ := zite hf
    refine g_get X zf1 hk25 2 (by decide) w_f_RX10_239 rfl rfl dX10_size_146 ?_
    obtain ⟨rfl, rfl⟩ := zsm hf
    exact g_iret X hr dX10_size_149
  have hf := zneg hs26 hf
  have ehs26 := lv_neT hs26 (a := 8) (by decide)
  by_cases hs31 : x1 = 9
  · have hf := zpos hs31 hf
    refine g_tswIn X 150 dX10_size_9 (by rw [hs31]; decide) (by rw [hs31]; decide) (by rw [hs31]; rfl) (by decide) ?_
    refine g_aload_n X 1 dX10_size_150 rfl ?_
    obtain ⟨r_27, hr_27, hf⟩ := zbd hf
    refine g_get X zf10 hk1 3 (by decide) w_f_RX10_23 rfl (zfv_r hr_27 rfl) dX10_size_151 ?_
    obtain ⟨hk28, hf⟩ := zite hf
    obtain ⟨r_29, hr_29, hf⟩ := zbd hf
    refine g_get X zf9 hk28 4 (by decide) w_f_RX10_233 rfl (zfv_r hr_29 rfl) dX10_size_154 ?_
    obtain ⟨hk30, hf⟩ := zite hf
    refine g_get X zf1 hk30 3 (by decide) w_f_RX10_266 rfl rfl dX10_size_157 ?_
    obtain ⟨rfl, rfl⟩ := zsm hf
    exact g_iret X hr dX10_size_160
  have hf := zneg hs31 hf
  have ehs31 := lv_neT hs31 (a := 9) (by decide)
  by_cases hs32 : x1 = 10
  · have hf := zpos hs32 hf
    refine g_tswIn X 161 dX10_size_9 (by rw [hs32]; decide) (by rw [hs32]; decide) (by rw [hs32]; rfl) (by decide) ?_
    refine g_aload_n X 1 dX10_size_161 rfl ?_
    refine g_get X zf10 hk1 7 (by decide) w_f_RX10_74 rfl rfl dX10_size_162 ?_
    obtain ⟨rfl, rfl⟩ := zsm hf
    exact g_iret X hr dX10_size_165
  have hf := zneg hs32 hf
  have ehs32 := lv_neT hs32 (a := 10) (by decide)
  by_cases hs33 : x1 = 11
  · have hf := zpos hs33 hf
    refine g_tswIn X 166 dX10_size_9 (by rw [hs33]; decide) (by rw [hs33]; decide) (by rw [hs33]; rfl) (by decide) ?_
    refine g_aload_n X 1 dX10_size_166 rfl ?_
    refine g_get X zf10 hk1 1 (by decide) w_f_RX10_48 rfl rfl dX10_size_167 ?_
    obtain ⟨rfl, rfl⟩ := zsm hf
    exact g_iret X hr dX10_size_170
  have hf := zneg hs33 hf
  have ehs33 := lv_neT hs33 (a := 11) (by decide)
  refine g_tswOut X 171 dX10_size_9 (by omega) (by decide) ?_
  refine g_iconst X (v := -1) dX10_size_171 (by decide) ?_
  obtain ⟨rfl, rfl⟩ := zsm hf
  exact g_iret X hr dX10_size_172

set_option maxHeartbeats 4000000 in
set_option maxRecDepth 100000 in
theorem sX10_noRule {l : Launch} {D : va_G} {cA : Nat → ClassId} {base : Nat} {sA : Nat → Nat} {r0 : Nat} {x1 : Int32} {h hE : Zh} {rE : Int32} (hf : fX10_noRule r0 x1 h = some (rE, hE)) : zC l yX10_noRule cX10_noRule 2 (some .boolean) 0 0 D cA base sA [.ref (base + r0), .int x1] h (some (.int rE)) hE := by
  refine g_entry RX10 (by decide) rfl (Nat.le_of_ble_eq_true rfl) ?_
  intro p e s m args below meth c X hr
  unfold fX10_noRule at hf
  have hf := zlet_n (x := h) rfl hf
  show zG p l e { frames := 0, cells := 0, slots := 0, locals := 0 } s m args below meth c (MQ below (zQ D cA base h hE (some (.int rE))) args s 0 0 (zA base)) 2 D cA base h 0 [(0, .ref (base + r0)), (1, .int x1)] [] h
  refine g_iload_n X 1 dX10_noRule_0 rfl ?_
  refine g_if_lt X 15 dX10_noRule_1 (by decide) (fun hq => ?_) (fun hq => ?_)
  · have hf := zpos hq hf
    refine g_iconst X (v := 1) dX10_noRule_15 (by decide) ?_
    refine g_goto X 20 dX10_noRule_16 (by decide) ?_
    obtain ⟨rfl, rfl⟩ := zsm hf
    exact g_zret X (Or.inr rfl) hr dX10_noRule_20
  · have hf := zneg hq hf
    refine g_iload_n X 1 dX10_noRule_4 rfl ?_
    refine g_aload_n X 0 dX10_noRule_5 rfl ?_
    obtain ⟨hk1, hf⟩ := zite hf
    obtain ⟨r_2, hr_2, hf⟩ := zbd hf
    refine g_get X zf10 hk1 3 (by decide) w_f_RX10_23 rfl (zfv_r hr_2 rfl) dX10_noRule_6 ?_
    obtain ⟨hk3, hf⟩ := zite hf
    refine g_get X zf9 hk3 3 (by decide) w_f_RX10_81 rfl rfl dX10_noRule_9 ?_
    refine g_icmp_lt X 19 dX10_noRule_12 (by decide) (fun hq => ?_) (fun hq => ?_)
    · have hf := zpos hq hf
      refine g_iconst X (v := 0) dX10_noRule_19 (by decide) ?_
      obtain ⟨rfl, rfl⟩ := zsm hf
      exact g_zret X (Or.inl rfl) hr dX10_noRule_20
    · have hf := zneg hq hf
      refine g_iconst X (v := 1) dX10_noRule_15 (by decide) ?_
      refine g_goto X 20 dX10_noRule_16 (by decide) ?_
      obtain ⟨rfl, rfl⟩ := zsm hf
      exact g_zret X (Or.inr rfl) hr dX10_noRule_20

set_option maxHeartbeats 4000000 in
set_option maxRecDepth 100000 in
theorem sX10_words {l : Launch} {D : va_G} {cA : Nat → ClassId} {base : Nat} {sA : Nat → Nat} {r0 : Nat} {x1 : Int32} {h hE : Zh} {rE : Int32} (hf : fX10_words r0 x1 h = some (rE, hE)) : zC l yX10_words cX10_words 2 (some .int) 1 21 D cA base sA [.ref (base + r0), .int x1] h (some (.int rE)) hE := by
  refine g_entry RX10 (by decide) rfl (Nat.le_of_ble_eq_true rfl) ?_
  intro p e s m args below meth c X hr
  unfold fX10_words at hf
  have hf := zlet_n (x := h) rfl hf
  show zG p l e { frames := 1, cells := 0, slots := 0, locals := 21 } s m args below meth c (MQ below (zQ D cA base h hE (some (.int rE))) args s 0 0 (zA base)) 2 D cA base h 0 [(0, .ref (base + r0)), (1, .int x1)] [] h
  refine g_aload_n X 0 dX10_words_0 rfl ?_
  refine g_iload_n X 1 dX10_words_1 rfl ?_
  obtain ⟨hk1, hf⟩ := zite hf
  obtain ⟨v3, h2, hch2, hf⟩ := zc2_e hf
  refine g_callV X 1 (sX10_noRule hch2) zf10 hk1 ydX10_noRule w_ml_RX10_157 w_instanceMethod_X10_noRule w_sel_X10_noRule w_ini_RX10 w_code_X10_noRule (by decide) rfl (st := []) rfl rfl (Nat.le_of_ble_eq_true rfl) dX10_words_2 ?_
  refine g_if_eq X 12 dX10_words_5 (by decide) (fun hq => ?_) (fun hq => ?_)
  · have hf := zpos hq hf
    refine g_aload_n X 0 dX10_words_12 rfl ?_
    obtain ⟨r_4, hr_4, hf⟩ := zbd hf
    refine g_get X zf10 hk1 3 (by decide) w_f_RX10_23 rfl (zfv_r hr_4 rfl) dX10_words_13 ?_
    obtain ⟨hk5, hf⟩ := zite hf
    obtain ⟨r_6, hr_6, hf⟩ := zbd hf
    refine g_get X zf9 hk5 2 (by decide) w_f_RX10_300 rfl (zfv_r hr_6 rfl) dX10_words_16 ?_
    refine g_iload_n X 1 dX10_words_19 rfl ?_
    obtain ⟨hk7, hf⟩ := zite hf
    obtain ⟨hi8, hf⟩ := zite hf
    refine g_iald X hk7 hi8 dX10_words_20 ?_
    obtain ⟨rfl, rfl⟩ := zsm hf
    exact g_iret X hr dX10_words_21
  · have hf := zneg hq hf
    refine g_iconst X (v := -1) dX10_words_8 (by decide) ?_
    refine g_goto X 21 dX10_words_9 (by decide) ?_
    obtain ⟨rfl, rfl⟩ := zsm hf
    exact g_iret X hr dX10_words_21

set_option maxHeartbeats 4000000 in
set_option maxRecDepth 100000 in
theorem sX10_trouble {l : Launch} {D : va_G} {cA : Nat → ClassId} {base : Nat} {sA : Nat → Nat} {r0 : Nat} {h hE : Zh} {rE : Int32} (hf : fX10_trouble r0 h = some (rE, hE)) : zC l yX10_trouble cX10_trouble 1 (some .int) 0 0 D cA base sA [.ref (base + r0)] h (some (.int rE)) hE := by
  refine g_entry RX10 (by decide) rfl (Nat.le_of_ble_eq_true rfl) ?_
  intro p e s m args below meth c X hr
  unfold fX10_trouble at hf
  have hf := zlet_n (x := h) rfl hf
  show zG p l e { frames := 0, cells := 0, slots := 0, locals := 0 } s m args below meth c (MQ below (zQ D cA base h hE (some (.int rE))) args s 0 0 (zA base)) 1 D cA base h 0 [(0, .ref (base + r0))] [] h
  refine g_aload_n X 0 dX10_trouble_0 rfl ?_
  obtain ⟨hk1, hf⟩ := zite hf
  refine g_get X zf10 hk1 8 (by decide) w_f_RX10_87 rfl rfl dX10_trouble_1 ?_
  obtain ⟨rfl, rfl⟩ := zsm hf
  exact g_iret X hr dX10_trouble_4

set_option maxHeartbeats 4000000 in
set_option maxRecDepth 100000 in
theorem sX12_rowsOf {l : Launch} {D : va_G} {cA : Nat → ClassId} {base : Nat} {sA : Nat → Nat} {x0 : Int32} {x1 : Int32} {h hE : Zh} {rE : Int64} (hf : fX12_rowsOf x0 x1 h = some (rE, hE)) : zC l yX12_rowsOf cX12_rowsOf 5 (some .long) 0 0 D cA base sA [.int x0, .int x1] h (some (.long rE)) hE := by
  refine g_entry RX12 (by decide) rfl (Nat.le_of_ble_eq_true rfl) ?_
  intro p e s m args below meth c X hr
  unfold fX12_rowsOf at hf
  have hf := zlet_n (x := h) rfl hf
  show zG p l e { frames := 0, cells := 0, slots := 0, locals := 0 } s m args below meth c (MQ below (zQ D cA base h hE (some (.long rE))) args s 0 0 (zA base)) 5 D cA base h 0 [(0, .int x0), (1, .int x1)] [] h
  refine g_lconst X (v := 1) dX12_rowsOf_0 (by decide) ?_
  refine g_lstore_n X [(2, .long ((1 : Int64))), (0, .int x0), (1, .int x1)] dX12_rowsOf_1 (by decide) rfl ?_
  refine g_iconst X (v := 0) dX12_rowsOf_2 (by decide) ?_
  refine g_istore X [(4, .int ((0 : Int32))), (2, .long ((1 : Int64))), (0, .int x0), (1, .int x1)] dX12_rowsOf_3 (by decide) rfl ?_
  refine g_sub [2, 3, 1, 0] rfl ?_
  obtain ⟨qq, hlp, hf⟩ := zbd hf
  refine lp_snd (body := (fun q : Int64 × Int32 × Zh => bX12_rowsOf_5 h x0 x1 q.1 q.2.1 q.2.2)) (P := (fun q : Int64 × Int32 × Zh => zG p l e { frames := 0, cells := 0, slots := 0, locals := 0 } s m args below meth c (MQ below (zQ D cA base h hE (some (.long rE))) args s 0 0 (zA base)) 5 D cA base h 5 [(0, .int x0), (1, .int x1), (2, .long q.1), (4, .int q.2.1)] [] q.2.2)) (E := (fun (en : Nat) (q : Int64 × Int32 × Zh) => zG p l e { frames := 0, cells := 0, slots := 0, locals := 0 } s m args below meth c (MQ below (zQ D cA base h hE (some (.long rE))) args s 0 0 (zA base)) 5 D cA base h 25 [(2, .long q.1)] [] q.2.2)) ?_ zB ((1 : Int64), ((0 : Int32), h)) qq.1 qq.2 hlp ?_
  · intro q e_5 q_5 hf hc0 hc1
    obtain ⟨j2_5, x4_5, h_5⟩ := q
    have hf : bX12_rowsOf_5 h x0 x1 j2_5 x4_5 h_5 = some (e_5, q_5) := hf
    unfold bX12_rowsOf_5 at hf
    show zG p l e { frames := 0, cells := 0, slots := 0, locals := 0 } s m args below meth c (MQ below (zQ D cA base h hE (some (.long rE))) args s 0 0 (zA base)) 5 D cA base h 5 [(0, .int x0), (1, .int x1), (2, .long j2_5), (4, .int x4_5)] [] h_5
    refine g_iload X 3 dX12_rowsOf_5 rfl ?_
    refine g_iload_n X 1 dX12_rowsOf_7 rfl ?_
    refine g_icmp_ge X 25 dX12_rowsOf_8 (by decide) (fun hq => ?_) (fun hq => ?_)
    · have hf := zpos hq hf
      cases hf
      have hc1 := hc1 (by decide)
      exact g_sub [2] rfl hc1
    · have hf := zneg hq hf
      refine g_lload_n X 2 dX12_rowsOf_11 rfl ?_
      refine g_iload_n X 0 dX12_rowsOf_12 rfl ?_
      refine g_iload X 3 dX12_rowsOf_13 rfl ?_
      refine g_isub X dX12_rowsOf_15 ?_
      refine g_i2l X dX12_rowsOf_16 ?_
      refine g_lmul X dX12_rowsOf_17 ?_
      refine g_topl (fun y1 ey1 => ?_)
      have hf := zlet_n ey1 hf
      refine g_lstore_n X [(2, .long y1), (0, .int x0), (1, .int x1), (4, .int x4_5)] dX12_rowsOf_18 (by decide) rfl ?_
      obtain ⟨y2, ey2⟩ : ∃ y : Int32, y = x4_5 + (1 : Int32) := ⟨_, rfl⟩
      have hf := zlet_n ey2 hf
      refine g_iinc X (j := 3) [(4, .int y2), (2, .long y1), (0, .int x0), (1, .int x1)] dX12_rowsOf_19 rfl (by rw [ey2]; rfl) (by decide) rfl ?_
      refine g_goto X 5 dX12_rowsOf_22 (by decide) ?_
      cases hf
      exact g_sub [2, 3, 1, 0] rfl (hc0 rfl)
  · obtain ⟨ee, j2_k5, x4_k5, h_k5⟩ := qq
    have hf : kX12_rowsOf_5 h ee j2_k5 x4_k5 h_k5 = some (rE, hE) := hf
    unfold kX12_rowsOf_5 at hf
    show zG p l e { frames := 0, cells := 0, slots := 0, locals := 0 } s m args below meth c (MQ below (zQ D cA base h hE (some (.long rE))) args s 0 0 (zA base)) 5 D cA base h 25 [(2, .long j2_k5)] [] h_k5
    refine g_lload_n X 0 dX12_rowsOf_25 rfl ?_
    obtain ⟨rfl, rfl⟩ := zsm hf
    exact g_lret X hr dX12_rowsOf_26

set_option maxHeartbeats 4000000 in
set_option maxRecDepth 100000 in
theorem sX12_setsOf {l : Launch} {D : va_G} {cA : Nat → ClassId} {base : Nat} {sA : Nat → Nat} {x0 : Int32} {x1 : Int32} {h hE : Zh} {rE : Int64} (hf : fX12_setsOf x0 x1 h = some (rE, hE)) : zC l yX12_setsOf cX12_setsOf 2 (some .long) 1 24 D cA base sA [.int x0, .int x1] h (some (.long rE)) hE := by
  refine g_entry RX12 (by decide) rfl (Nat.le_of_ble_eq_true rfl) ?_
  intro p e s m args below meth c X hr
  unfold fX12_setsOf at hf
  have hf := zlet_n (x := h) rfl hf
  show zG p l e { frames := 1, cells := 0, slots := 0, locals := 24 } s m args below meth c (MQ below (zQ D cA base h hE (some (.long rE))) args s 0 0 (zA base)) 2 D cA base h 0 [(0, .int x0), (1, .int x1)] [] h
  refine g_iload_n X 0 dX12_setsOf_0 rfl ?_
  refine g_iload_n X 1 dX12_setsOf_1 rfl ?_
  obtain ⟨v2, h1, hch1, hf⟩ := zc2_e hf
  refine g_callS X 2 (sX12_rowsOf hch1) ysX12_rowsOf w_ml_RX12_99 w_static_X12_rowsOf w_ini_RX12 w_code_X12_rowsOf (by decide) rfl (st := []) rfl rfl (Nat.le_of_ble_eq_true rfl) dX12_setsOf_2 ?_
  refine g_iload_n X 1 dX12_setsOf_5 rfl ?_
  refine g_iload_n X 1 dX12_setsOf_6 rfl ?_
  obtain ⟨v4, h3, hch3, hf⟩ := zc2_e hf
  refine g_callS X 2 (sX12_rowsOf hch3) ysX12_rowsOf w_ml_RX12_99 w_static_X12_rowsOf w_ini_RX12 w_code_X12_rowsOf (by decide) rfl (st := [.long v2]) rfl rfl (Nat.le_of_ble_eq_true rfl) dX12_setsOf_7 ?_
  obtain ⟨hn5, hf⟩ := zite hf
  refine g_ldiv X hn5 dX12_setsOf_10 ?_
  obtain ⟨rfl, rfl⟩ := zsm hf
  exact g_lret X hr dX12_setsOf_11

set_option maxHeartbeats 4000000 in
set_option maxRecDepth 100000 in
theorem sX11_handsOf {l : Launch} {D : va_G} {cA : Nat → ClassId} {base : Nat} {sA : Nat → Nat} {r0 : Nat} {x1 : Int32} {h hE : Zh} {rE : Int64} (hf : fX11_handsOf r0 x1 h = some (rE, hE)) : zC l yX11_handsOf cX11_handsOf 2 (some .long) 2 45 D cA base sA [.ref (base + r0), .int x1] h (some (.long rE)) hE := by
  refine g_entry RX11 (by decide) rfl (Nat.le_of_ble_eq_true rfl) ?_
  intro p e s m args below meth c X hr
  unfold fX11_handsOf at hf
  have hf := zlet_n (x := h) rfl hf
  show zG p l e { frames := 2, cells := 0, slots := 0, locals := 45 } s m args below meth c (MQ below (zQ D cA base h hE (some (.long rE))) args s 0 0 (zA base)) 2 D cA base h 0 [(0, .ref (base + r0)), (1, .int x1)] [] h
  refine g_aload_n X 0 dX11_handsOf_0 rfl ?_
  obtain ⟨hk1, hf⟩ := zite hf
  refine g_get X zf11 hk1 7 (by decide) w_f_RX11_28 rfl rfl dX11_handsOf_1 ?_
  refine g_if_eq X 18 dX11_handsOf_4 (by decide) (fun hq => ?_) (fun hq => ?_)
  · have hf := zpos hq hf
    refine g_iload_n X 1 dX11_handsOf_18 rfl ?_
    refine g_aload_n X 0 dX11_handsOf_19 rfl ?_
    refine g_get X zf11 hk1 2 (by decide) w_f_RX11_32 rfl rfl dX11_handsOf_20 ?_
    obtain ⟨v3, h2, hch2, hf⟩ := zc2_e hf
    refine g_callSN X 2 (sX12_setsOf hch2) ysX12_setsOf w_mn_RX11_40 w_static_X12_setsOf w_ini_RX12 w_code_X12_setsOf (by decide) rfl (st := []) rfl rfl (Nat.le_of_ble_eq_true rfl) dX11_handsOf_23 ?_
    obtain ⟨rfl, rfl⟩ := zsm hf
    exact g_lret X hr dX11_handsOf_26
  · have hf := zneg hq hf
    refine g_iload_n X 1 dX11_handsOf_7 rfl ?_
    refine g_aload_n X 0 dX11_handsOf_8 rfl ?_
    refine g_get X zf11 hk1 2 (by decide) w_f_RX11_32 rfl rfl dX11_handsOf_9 ?_
    obtain ⟨v5, h4, hch4, hf⟩ := zc2_e hf
    refine g_callSN X 2 (sX12_rowsOf hch4) ysX12_rowsOf w_mn_RX11_36 w_static_X12_rowsOf w_ini_RX12 w_code_X12_rowsOf (by decide) rfl (st := []) rfl rfl (Nat.le_of_ble_eq_true rfl) dX11_handsOf_12 ?_
    refine g_goto X 26 dX11_handsOf_15 (by decide) ?_
    obtain ⟨rfl, rfl⟩ := zsm hf
    exact g_lret X hr dX11_handsOf_26

set_option maxHeartbeats 4000000 in
set_option maxRecDepth 100000 in
theorem sX11_tilts {l : Launch} {D : va_G} {cA : Nat → ClassId} {base : Nat} {sA : Nat → Nat} {r0 : Nat} {h hE : Zh} {rE : Int32} (hf : fX11_tilts r0 h = some (rE, hE)) : zC l yX11_tilts cX11_tilts 1 (some .int) 0 0 D cA base sA [.ref (base + r0)] h (some (.int rE)) hE := by
  refine g_entry RX11 (by decide) rfl (Nat.le_of_ble_eq_true rfl) ?_
  intro p e s m args below meth c X hr
  unfold fX11_tilts at hf
  have hf := zlet_n (x := h) rfl hf
  show zG p l e { frames := 0, cells := 0, slots := 0, locals := 0 } s m args below meth c (MQ below (zQ D cA base h hE (some (.int rE))) args s 0 0 (zA base)) 1 D cA base h 0 [(0, .ref (base + r0))] [] h
  refine g_aload_n X 0 dX11_tilts_0 rfl ?_
  obtain ⟨hk1, hf⟩ := zite hf
  refine g_get X zf11 hk1 9 (by decide) w_f_RX11_43 rfl rfl dX11_tilts_1 ?_
  refine g_if_eq X 16 dX11_tilts_4 (by decide) (fun hq => ?_) (fun hq => ?_)
  · have hf := zpos hq hf
    refine g_iconst X (v := 1) dX11_tilts_16 (by decide) ?_
    obtain ⟨rfl, rfl⟩ := zsm hf
    exact g_iret X hr dX11_tilts_17
  · have hf := zneg hq hf
    refine g_iconst X (v := 1) dX11_tilts_7 (by decide) ?_
    refine g_aload_n X 0 dX11_tilts_8 rfl ?_
    refine g_get X zf11 hk1 4 (by decide) w_f_RX11_46 rfl rfl dX11_tilts_9 ?_
    refine g_ishl X dX11_tilts_12 ?_
    refine g_goto X 17 dX11_tilts_13 (by decide) ?_
    obtain ⟨rfl, rfl⟩ := zsm hf
    exact g_iret X hr dX11_tilts_17

set_option maxHeartbeats 4000000 in
set_option maxRecDepth 100000 in
theorem sX12_thrown {l : Launch} {D : va_G} {cA : Nat → ClassId} {base : Nat} {sA : Nat → Nat} {r0 : Nat} {h hE : Zh} {rE : Int32} (hf : fX12_thrown r0 h = some (rE, hE)) : zC l yX12_thrown cX12_thrown 1 (some .int) 0 0 D cA base sA [.ref (base + r0)] h (some (.int rE)) hE := by
  refine g_entry RX12 (by decide) rfl (Nat.le_of_ble_eq_true rfl) ?_
  intro p e s m args below meth c X hr
  unfold fX12_thrown at hf
  have hf := zlet_n (x := h) rfl hf
  show zG p l e { frames := 0, cells := 0, slots := 0, locals := 0 } s m args below meth c (MQ below (zQ D cA base h hE (some (.int rE))) args s 0 0 (zA base)) 1 D cA base h 0 [(0, .ref (base + r0))] [] h
  refine g_aload_n X 0 dX12_thrown_0 rfl ?_
  obtain ⟨hk1, hf⟩ := zite hf
  refine g_get X zf12 hk1 0 (by decide) w_f_RX12_86 rfl rfl dX12_thrown_1 ?_
  obtain ⟨rfl, rfl⟩ := zsm hf
  exact g_iret X hr dX12_thrown_4

set_option maxHeartbeats 4000000 in
set_option maxRecDepth 100000 in
theorem sX12_refused {l : Launch} {D : va_G} {cA : Nat → ClassId} {base : Nat} {sA : Nat → Nat} {r0 : Nat} {x1 : Int32} {h hE : Zh} {rE : Int32} (hf : fX12_refused r0 x1 h = some (rE, hE)) : zC l yX12_refused cX12_refused 2 (some .int) 0 0 D cA base sA [.ref (base + r0), .int x1] h (some (.int rE)) hE := by
  refine g_entry RX12 (by decide) rfl (Nat.le_of_ble_eq_true rfl) ?_
  intro p e s m args below meth c X hr
  unfold fX12_refused at hf
  have hf := zlet_n (x := h) rfl hf
  show zG p l e { frames := 0, cells := 0, slots := 0, locals := 0 } s m args below meth c (MQ below (zQ D cA base h hE (some (.int rE))) args s 0 0 (zA base)) 2 D cA base h 0 [(0, .ref (base + r0)), (1, .int x1)] [] h
  refine g_aload_n X 0 dX12_refused_0 rfl ?_
  refine g_iload_n X 1 dX12_refused_1 rfl ?_
  obtain ⟨hk1, hf⟩ := zite hf
  refine g_putI X zf12 hk1 1 (by decide) w_f_RX12_89 rfl rfl rfl dX12_refused_2 ?_
  refine g_hp (fun h2 eh2 => ?_)
  have hf := zlet_n eh2 hf
  refine g_aload_n X 0 dX12_refused_5 rfl ?_
  refine g_iconst X (v := -1) dX12_refused_6 (by decide) ?_
  refine g_putI X zf12 hk1 2 (by decide) w_f_RX12_9 rfl rfl rfl dX12_refused_7 ?_
  refine g_hp (fun h3 eh3 => ?_)
  have hf := zlet_n eh3 hf
  refine g_iconst X (v := -1) dX12_refused_10 (by decide) ?_
  obtain ⟨rfl, rfl⟩ := zsm hf
  exact g_iret X hr dX12_refused_11

set_option maxHeartbeats 4000000 in
set_option maxRecDepth 100000 in
theorem sX12_denied {l : Launch} {D : va_G} {cA : Nat → ClassId} {base : Nat} {sA : Nat → Nat} {r0 : Nat} {x1 : Int32} {h hE : Zh} {rE : Int32} (hf : fX12_denied r0 x1 h = some (rE, hE)) : zC l yX12_denied cX12_denied 2 (some .boolean) 1 21 D cA base sA [.ref (base + r0), .int x1] h (some (.int rE)) hE := by
  refine g_entry RX12 (by decide) rfl (Nat.le_of_ble_eq_true rfl) ?_
  intro p e s m args below meth c X hr
  unfold fX12_denied at hf
  have hf := zlet_n (x := h) rfl hf
  show zG p l e { frames := 1, cells := 0, slots := 0, locals := 21 } s m args below meth c (MQ below (zQ D cA base h hE (some (.int rE))) args s 0 0 (zA base)) 2 D cA base h 0 [(0, .ref (base + r0)), (1, .int x1)] [] h
  refine g_aload_n X 0 dX12_denied_0 rfl ?_
  refine g_iload_n X 1 dX12_denied_1 rfl ?_
  obtain ⟨hk1, hf⟩ := zite hf
  obtain ⟨v3, h2, hch2, hf⟩ := zc2_e hf
  refine g_callV X 1 (sX12_refused hch2) zf12 hk1 ydX12_refused w_ml_RX12_92 w_instanceMethod_X12_refused w_sel_X12_refused w_ini_RX12 w_code_X12_refused (by decide) rfl (st := []) rfl rfl (Nat.le_of_ble_eq_true rfl) dX12_denied_2 ?_
  refine g_pop X dX12_denied_5 rfl ?_
  refine g_iconst X (v := 0) dX12_denied_6 (by decide) ?_
  obtain ⟨rfl, rfl⟩ := zsm hf
  exact g_zret X (Or.inl rfl) hr dX12_denied_7

set_option maxHeartbeats 4000000 in
set_option maxRecDepth 100000 in
theorem sX12_good {l : Launch} {D : va_G} {cA : Nat → ClassId} {base : Nat} {sA : Nat → Nat} {r0 : Nat} {x1 : Int32} {h hE : Zh} {rE : Int32} (hf : fX12_good r0 x1 h = some (rE, hE)) : zC l yX12_good cX12_good 2 (some .int) 0 0 D cA base sA [.ref (base + r0), .int x1] h (some (.int rE)) hE := by
  refine g_entry RX12 (by decide) rfl (Nat.le_of_ble_eq_true rfl) ?_
  intro p e s m args below meth c X hr
  unfold fX12_good at hf
  have hf := zlet_n (x := h) rfl hf
  show zG p l e { frames := 0, cells := 0, slots := 0, locals := 0 } s m args below meth c (MQ below (zQ D cA base h hE (some (.int rE))) args s 0 0 (zA base)) 2 D cA base h 0 [(0, .ref (base + r0)), (1, .int x1)] [] h
  refine g_aload_n X 0 dX12_good_0 rfl ?_
  refine g_iconst X (v := 0) dX12_good_1 (by decide) ?_
  obtain ⟨hk1, hf⟩ := zite hf
  refine g_putI X zf12 hk1 1 (by decide) w_f_RX12_89 rfl rfl rfl dX12_good_2 ?_
  refine g_hp (fun h2 eh2 => ?_)
  have hf := zlet_n eh2 hf
  refine g_aload_n X 0 dX12_good_5 rfl ?_
  refine g_iconst X (v := -1) dX12_good_6 (by decide) ?_
  refine g_putI X zf12 hk1 2 (by decide) w_f_RX12_9 rfl rfl rfl dX12_good_7 ?_
  refine g_hp (fun h3 eh3 => ?_)
  have hf := zlet_n eh3 hf
  refine g_iload_n X 1 dX12_good_10 rfl ?_
  obtain ⟨rfl, rfl⟩ := zsm hf
  exact g_iret X hr dX12_good_11

set_option maxHeartbeats 4000000 in
set_option maxRecDepth 100000 in
theorem sX12_granted {l : Launch} {D : va_G} {cA : Nat → ClassId} {base : Nat} {sA : Nat → Nat} {r0 : Nat} {h hE : Zh} {rE : Int32} (hf : fX12_granted r0 h = some (rE, hE)) : zC l yX12_granted cX12_granted 1 (some .boolean) 1 21 D cA base sA [.ref (base + r0)] h (some (.int rE)) hE := by
  refine g_entry RX12 (by decide) rfl (Nat.le_of_ble_eq_true rfl) ?_
  intro p e s m args below meth c X hr
  unfold fX12_granted at hf
  have hf := zlet_n (x := h) rfl hf
  show zG p l e { frames := 1, cells := 0, slots := 0, locals := 21 } s m args below meth c (MQ below (zQ D cA base h hE (some (.int rE))) args s 0 0 (zA base)) 1 D cA base h 0 [(0, .ref (base + r0))] [] h
  refine g_aload_n X 0 dX12_granted_0 rfl ?_
  refine g_iconst X (v := 0) dX12_granted_1 (by decide) ?_
  obtain ⟨hk1, hf⟩ := zite hf
  obtain ⟨v3, h2, hch2, hf⟩ := zc2_e hf
  refine g_callV X 1 (sX12_good hch2) zf12 hk1 ydX12_good w_ml_RX12_96 w_instanceMethod_X12_good w_sel_X12_good w_ini_RX12 w_code_X12_good (by decide) rfl (st := []) rfl rfl (Nat.le_of_ble_eq_true rfl) dX12_granted_2 ?_
  refine g_pop X dX12_granted_5 rfl ?_
  refine g_iconst X (v := 1) dX12_granted_6 (by decide) ?_
  obtain ⟨rfl, rfl⟩ := zsm hf
  exact g_zret X (Or.inr rfl) hr dX12_granted_7

set_option maxHeartbeats 4000000 in
set_option maxRecDepth 100000 in
theorem sX12_in {l : Launch} {D : va_G} {cA : Nat → ClassId} {base : Nat} {sA : Nat → Nat} {x0 : Int32} {x1 : Int32} {x2 : Int32} {h hE : Zh} {rE : Int32} (hf : fX12_in x0 x1 x2 h = some (rE, hE)) : zC l yX12_in cX12_in 3 (some .boolean) 0 0 D cA base sA [.int x0, .int x1, .int x2] h (some (.int rE)) hE := by
  refine g_entry RX12 (by decide) rfl (Nat.le_of_ble_eq_true rfl) ?_
  intro p e s m args below meth c X hr
  unfold fX12_in at hf
  have hf := zlet_n (x := h) rfl hf
  show zG p l e { frames := 0, cells := 0, slots := 0, locals := 0 } s m args below meth c (MQ below (zQ D cA base h hE (some (.int rE))) args s 0 0 (zA base)) 3 D cA base h 0 [(0, .int x0), (1, .int x1), (2, .int x2)] [] h
  refine g_iload_n X 0 dX12_in_0 rfl ?_
  refine g_iload_n X 1 dX12_in_1 rfl ?_
  refine g_icmp_lt X 14 dX12_in_2 (by decide) (fun hq => ?_) (fun hq => ?_)
  · have hf := zpos hq hf
    refine g_iconst X (v := 0) dX12_in_14 (by decide) ?_
    obtain ⟨rfl, rfl⟩ := zsm hf
    exact g_zret X (Or.inl rfl) hr dX12_in_15
  · have hf := zneg hq hf
    refine g_iload_n X 0 dX12_in_5 rfl ?_
    refine g_iload_n X 2 dX12_in_6 rfl ?_
    refine g_icmp_gt X 14 dX12_in_7 (by decide) (fun hq => ?_) (fun hq => ?_)
    · have hf := zpos hq hf
      refine g_iconst X (v := 0) dX12_in_14 (by decide) ?_
      obtain ⟨rfl, rfl⟩ := zsm hf
      exact g_zret X (Or.inl rfl) hr dX12_in_15
    · have hf := zneg hq hf
      refine g_iconst X (v := 1) dX12_in_10 (by decide) ?_
      refine g_goto X 15 dX12_in_11 (by decide) ?_
      obtain ⟨rfl, rfl⟩ := zsm hf
      exact g_zret X (Or.inr rfl) hr dX12_in_15

set_option maxHeartbeats 4000000 in
set_option maxRecDepth 100000 in
theorem sX12_divisor {l : Launch} {D : va_G} {cA : Nat → ClassId} {base : Nat} {sA : Nat → Nat} {x0 : Int32} {x1 : Int32} {h hE : Zh} {rE : Int32} (hf : fX12_divisor x0 x1 h = some (rE, hE)) : zC l yX12_divisor cX12_divisor 5 (some .int) 0 0 D cA base sA [.int x0, .int x1] h (some (.int rE)) hE := by
  refine g_entry RX12 (by decide) rfl (Nat.le_of_ble_eq_true rfl) ?_
  intro p e s m args below meth c X hr
  unfold fX12_divisor at hf
  have hf := zlet_n (x := h) rfl hf
  show zG p l e { frames := 0, cells := 0, slots := 0, locals := 0 } s m args below meth c (MQ below (zQ D cA base h hE (some (.int rE))) args s 0 0 (zA base)) 5 D cA base h 0 [(0, .int x0), (1, .int x1)] [] h
  refine g_iload_n X 0 dX12_divisor_0 rfl ?_
  refine g_istore_n X [(2, .int x0), (0, .int x0), (1, .int x1)] dX12_divisor_1 (by decide) rfl ?_
  refine g_iload_n X 2 dX12_divisor_2 rfl ?_
  refine g_istore_n X [(3, .int x1), (2, .int x0), (0, .int x0), (1, .int x1)] dX12_divisor_3 (by decide) rfl ?_
  refine g_sub [1, 0] rfl ?_
  obtain ⟨qq, hlp, hf⟩ := zbd hf
  refine lp_snd (body := (fun q : Int32 × Int32 × Zh => bX12_divisor_4 h q.1 q.2.1 q.2.2)) (P := (fun q : Int32 × Int32 × Zh => zG p l e { frames := 0, cells := 0, slots := 0, locals := 0 } s m args below meth c (MQ below (zQ D cA base h hE (some (.int rE))) args s 0 0 (zA base)) 5 D cA base h 4 [(2, .int q.1), (3, .int q.2.1)] [] q.2.2)) (E := (fun (en : Nat) (q : Int32 × Int32 × Zh) => zG p l e { frames := 0, cells := 0, slots := 0, locals := 0 } s m args below meth c (MQ below (zQ D cA base h hE (some (.int rE))) args s 0 0 (zA base)) 5 D cA base h 21 [(2, .int q.1)] [] q.2.2)) ?_ zB (x0, (x1, h)) qq.1 qq.2 hlp ?_
  · intro q e_4 q_4 hf hc0 hc1
    obtain ⟨x2_4, x3_4, h_4⟩ := q
    have hf : bX12_divisor_4 h x2_4 x3_4 h_4 = some (e_4, q_4) := hf
    unfold bX12_divisor_4 at hf
    show zG p l e { frames := 0, cells := 0, slots := 0, locals := 0 } s m args below meth c (MQ below (zQ D cA base h hE (some (.int rE))) args s 0 0 (zA base)) 5 D cA base h 4 [(2, .int x2_4), (3, .int x3_4)] [] h_4
    refine g_iload_n X 1 dX12_divisor_4 rfl ?_
    refine g_if_eq X 21 dX12_divisor_5 (by decide) (fun hq => ?_) (fun hq => ?_)
    · have hf := zpos hq hf
      cases hf
      have hc1 := hc1 (by decide)
      exact g_sub [0] rfl hc1
    · have hf := zneg hq hf
      refine g_iload_n X 0 dX12_divisor_8 rfl ?_
      refine g_iload_n X 1 dX12_divisor_9 rfl ?_
      obtain ⟨hn1, hf⟩ := zite hf
      refine g_irem X hn1 dX12_divisor_10 ?_
      refine g_topi (fun y2 ey2 => ?_)
      have hf := zlet_n ey2 hf
      refine g_istore X [(4, .int y2), (2, .int x2_4), (3, .int x3_4)] dX12_divisor_11 (by decide) rfl ?_
      refine g_iload_n X 2 dX12_divisor_13 rfl ?_
      refine g_istore_n X [(2, .int x3_4), (4, .int y2), (3, .int x3_4)] dX12_divisor_14 (by decide) rfl ?_
      refine g_iload X 1 dX12_divisor_15 rfl ?_
      refine g_istore_n X [(3, .int y2), (2, .int x3_4), (4, .int y2)] dX12_divisor_17 (by decide) rfl ?_
      refine g_goto X 4 dX12_divisor_18 (by decide) ?_
      cases hf
      exact g_sub [1, 0] rfl (hc0 rfl)
  · obtain ⟨ee, x2_k4, x3_k4, h_k4⟩ := qq
    have hf : kX12_divisor_4 h ee x2_k4 x3_k4 h_k4 = some (rE, hE) := hf
    unfold kX12_divisor_4 at hf
    show zG p l e { frames := 0, cells := 0, slots := 0, locals := 0 } s m args below meth c (MQ below (zQ D cA base h hE (some (.int rE))) args s 0 0 (zA base)) 5 D cA base h 21 [(2, .int x2_k4)] [] h_k4
    refine g_iload_n X 0 dX12_divisor_21 rfl ?_
    obtain ⟨rfl, rfl⟩ := zsm hf
    exact g_iret X hr dX12_divisor_22

set_option maxHeartbeats 4000000 in
set_option maxRecDepth 100000 in
theorem sX12_byteAt {l : Launch} {D : va_G} {cA : Nat → ClassId} {base : Nat} {sA : Nat → Nat} {r0 : Nat} {x1 : Int32} {h hE : Zh} {rE : Int32} (hf : fX12_byteAt r0 x1 h = some (rE, hE)) : zC l yX12_byteAt cX12_byteAt 2 (some .int) 0 0 D cA base sA [.ref (base + r0), .int x1] h (some (.int rE)) hE := by
  refine g_entry RX12 (by decide) rfl (Nat.le_of_ble_eq_true rfl) ?_
  intro p e s m args below meth c X hr
  unfold fX12_byteAt at hf
  have hf := zlet_n (x := h) rfl hf
  show zG p l e { frames := 0, cells := 0, slots := 0, locals := 0 } s m args below meth c (MQ below (zQ D cA base h hE (some (.int rE))) args s 0 0 (zA base)) 2 D cA base h 0 [(0, .ref (base + r0)), (1, .int x1)] [] h
  refine g_iload_n X 1 dX12_byteAt_0 rfl ?_
  refine g_aload_n X 0 dX12_byteAt_1 rfl ?_
  obtain ⟨hk1, hf⟩ := zite hf
  refine g_get X zf12 hk1 7 (by decide) w_f_RX12_103 rfl rfl dX12_byteAt_2 ?_
  refine g_icmp_ge X 21 dX12_byteAt_5 (by decide) (fun hq => ?_) (fun hq => ?_)
  · have hf := zpos hq hf
    refine g_iconst X (v := -1) dX12_byteAt_21 (by decide) ?_
    obtain ⟨rfl, rfl⟩ := zsm hf
    exact g_iret X hr dX12_byteAt_22
  · have hf := zneg hq hf
    refine g_aload_n X 0 dX12_byteAt_8 rfl ?_
    obtain ⟨r_2, hr_2, hf⟩ := zbd hf
    refine g_get X zf12 hk1 5 (by decide) w_f_RX12_13 rfl (zfv_r hr_2 rfl) dX12_byteAt_9 ?_
    refine g_iload_n X 1 dX12_byteAt_12 rfl ?_
    obtain ⟨hk3, hf⟩ := zite hf
    obtain ⟨hi4, hf⟩ := zite hf
    refine g_bald X hk3 hi4 dX12_byteAt_13 ?_
    refine g_sipush X (v := 255) dX12_byteAt_14 (by decide) ?_
    refine g_iand X dX12_byteAt_17 ?_
    refine g_goto X 22 dX12_byteAt_18 (by decide) ?_
    obtain ⟨rfl, rfl⟩ := zsm hf
    exact g_iret X hr dX12_byteAt_22

set_option maxHeartbeats 4000000 in
set_option maxRecDepth 100000 in
theorem sX12_isLetter {l : Launch} {D : va_G} {cA : Nat → ClassId} {base : Nat} {sA : Nat → Nat} {x0 : Int32} {h hE : Zh} {rE : Int32} (hf : fX12_isLetter x0 h = some (rE, hE)) : zC l yX12_isLetter cX12_isLetter 1 (some .boolean) 0 0 D cA base sA [.int x0] h (some (.int rE)) hE := by
  refine g_entry RX12 (by decide) rfl (Nat.le_of_ble_eq_true rfl) ?_
  intro p e s m args below meth c X hr
  unfold fX12_isLetter at hf
  have hf := zlet_n (x := h) rfl hf
  show zG p l e { frames := 0, cells := 0, slots := 0, locals := 0 } s m args below meth c (MQ below (zQ D cA base h hE (some (.int rE))) args s 0 0 (zA base)) 1 D cA base h 0 [(0, .int x0)] [] h
  refine g_iload_n X 0 dX12_isLetter_0 rfl ?_
  refine g_bipush X (v := 97) dX12_isLetter_1 (by decide) ?_
  refine g_icmp_lt X 16 dX12_isLetter_3 (by decide) (fun hq => ?_) (fun hq => ?_)
  · have hf := zpos hq hf
    refine g_iconst X (v := 0) dX12_isLetter_16 (by decide) ?_
    obtain ⟨rfl, rfl⟩ := zsm hf
    exact g_zret X (Or.inl rfl) hr dX12_isLetter_17
  · have hf := zneg hq hf
    refine g_iload_n X 0 dX12_isLetter_6 rfl ?_
    refine g_bipush X (v := 122) dX12_isLetter_7 (by decide) ?_
    refine g_icmp_gt X 16 dX12_isLetter_9 (by decide) (fun hq => ?_) (fun hq => ?_)
    · have hf := zpos hq hf
      refine g_iconst X (v := 0) dX12_isLetter_16 (by decide) ?_
      obtain ⟨rfl, rfl⟩ := zsm hf
      exact g_zret X (Or.inl rfl) hr dX12_isLetter_17
    · have hf := zneg hq hf
      refine g_iconst X (v := 1) dX12_isLetter_12 (by decide) ?_
      refine g_goto X 17 dX12_isLetter_13 (by decide) ?_
      obtain ⟨rfl, rfl⟩ := zsm hf
      exact g_zret X (Or.inr rfl) hr dX12_isLetter_17

set_option maxHeartbeats 4000000 in
set_option maxRecDepth 100000 in
theorem sX12_isDigit {l : Launch} {D : va_G} {cA : Nat → ClassId} {base : Nat} {sA : Nat → Nat} {x0 : Int32} {h hE : Zh} {rE : Int32} (hf : fX12_isDigit x0 h = some (rE, hE)) : zC l yX12_isDigit cX12_isDigit 1 (some .boolean) 0 0 D cA base sA [.int x0] h (some (.int rE)) hE := by
  refine g_entry RX12 (by decide) rfl (Nat.le_of_ble_eq_true rfl) ?_
  intro p e s m args below meth c X hr
  unfold fX12_isDigit at hf
  have hf := zlet_n (x := h) rfl hf
  show zG p l e { frames := 0, cells := 0, slots := 0, locals := 0 } s m args below meth c (MQ below (zQ D cA base h hE (some (.int rE))) args s 0 0 (zA base)) 1 D cA base h 0 [(0, .int x0)] [] h
  refine g_iload_n X 0 dX12_isDigit_0 rfl ?_
  refine g_bipush X (v := 48) dX12_isDigit_1 (by decide) ?_
  refine g_icmp_lt X 16 dX12_isDigit_3 (by decide) (fun hq => ?_) (fun hq => ?_)
  · have hf := zpos hq hf
    refine g_iconst X (v := 0) dX12_isDigit_16 (by decide) ?_
    obtain ⟨rfl, rfl⟩ := zsm hf
    exact g_zret X (Or.inl rfl) hr dX12_isDigit_17
  · have hf := zneg hq hf
    refine g_iload_n X 0 dX12_isDigit_6 rfl ?_
    refine g_bipush X (v := 57) dX12_isDigit_7 (by decide) ?_
    refine g_icmp_gt X 16 dX12_isDigit_9 (by decide) (fun hq => ?_) (fun hq => ?_)
    · have hf := zpos hq hf
      refine g_iconst X (v := 0) dX12_isDigit_16 (by decide) ?_
      obtain ⟨rfl, rfl⟩ := zsm hf
      exact g_zret X (Or.inl rfl) hr dX12_isDigit_17
    · have hf := zneg hq hf
      refine g_iconst X (v := 1) dX12_isDigit_12 (by decide) ?_
      refine g_goto X 17 dX12_isDigit_13 (by decide) ?_
      obtain ⟨rfl, rfl⟩ := zsm hf
      exact g_zret X (Or.inr rfl) hr dX12_isDigit_17

