/-! FifthCardModel count -/
def fX12_count (r0 : Nat) (x1 : Int32) (x2 : Int32) (h : Zh) : Option (Int64 × Zh) := zlet h fun g =>
  if zK g r0 = 12 then zlet (zsI h r0 0 ((0 : Int32))) fun h2 => if (zR h2 r0 3).isSome = true then (zR h2 r0 3).bind fun r_3 => if zK g r_3 = 11 then zc2 (fX12_in x1 (zI h2 r_3 2) ((200 : Int32)) h2) fun v6 h5 => if v6 = 0 then zc2 (fX12_refused r0 ((2 : Int32)) h5) fun v12 h11 => some (v12.toInt64, h11) else zc2 (fX12_good r0 ((0 : Int32)) h5) fun v8 h7 => zc2 (fX12_countOf r0 x1 x2 h7) fun v10 h9 => some (v10, h9) else none else zc2 (fX12_refused r0 ((1 : Int32)) h2) fun v14 h13 => some (v14.toInt64, h13) else none
/-! FifthCardModel most -/
def bX12_most_22 (g : Zh) (r0 : Nat) (x1 : Int32) (h : Zh) : Option (Nat × Int32 × Zh) :=
  (zR h r0 3).bind fun r_3 => if zK g r_3 = 11 then if x1 < (zI h r_3 2) then some (2, (x1, h)) else zc2 (fX12_countOf r0 x1 ((0 : Int32)) h) fun v6 h5 => zc2 (fX12_countOf r0 x1 ((1 : Int32)) h5) fun v8 h7 => if 0 < (lg_cmp v6 v8) then zlet (x1 + (-1 : Int32)) fun y9 => some (0, (y9, h7)) else some (1, (x1, h7)) else none
def kX12_most_22 (g : Zh) (r0 : Nat) (e : Nat) (x1 : Int32) (h : Zh) : Option (Int32 × Zh) :=
  if e = 1 then zc2 (fX12_good r0 x1 h) fun v11 h10 => some (v11, h10) else zc2 (fX12_good r0 ((-2 : Int32)) h) fun v13 h12 => some (v13, h12)
def fX12_most (r0 : Nat) (h : Zh) : Option (Int32 × Zh) := zlet h fun g =>
  if zK g r0 = 12 then zlet (zsI h r0 0 ((0 : Int32))) fun h2 => if (zR h2 r0 3).isSome = true then (lp (fun q : Int32 × Zh => bX12_most_22 g r0 q.1 q.2) zB ((200 : Int32), h2)).bind fun q => kX12_most_22 g r0 q.1 q.2.1 q.2.2 else zc2 (fX12_refused r0 ((1 : Int32)) h2) fun v15 h14 => some (v15, h14) else none
/-! FifthCardModel isEvening -/
def fX12_isEvening (r0 : Nat) (x1 : Int32) (h : Zh) : Option (Int32 × Zh) := zlet h fun g =>
  if zK g r0 = 12 then if (zR h r0 3).isSome = true then if x1 < 0 then some ((0 : Int32), h) else if (zI h r0 43) ≤ x1 then some ((0 : Int32), h) else some ((1 : Int32), h) else some ((0 : Int32), h) else none
/-! FifthCardModel judge -/
def fX12_judge (r0 : Nat) (x1 : Int32) (h : Zh) : Option (Int32 × Zh) := zlet h fun g =>
  if zK g r0 = 12 then zlet (zsI h r0 0 ((0 : Int32))) fun h2 => zc2 (fX12_isEvening r0 x1 h2) fun v4 h3 => if v4 = 0 then zc2 (fX12_refused r0 ((1 : Int32)) h3) fun v6 h5 => some (v6, h5) else (zR h3 r0 37).bind fun r_7 => if zK g r_7 = 100 then if zin x1 (zL g r_7) then (zR h3 r0 38).bind fun r_10 => if zK g r_10 = 100 then if zin x1 (zL g r_10) then zc2 (fX12_rowFits r0 (zI h3 r_7 x1.toNatClampNeg) (zI h3 r_10 x1.toNatClampNeg) h3) fun v14 h13 => if v14 = 0 then zc2 (fX12_good r0 ((0 : Int32)) h13) fun v16 h15 => some (v16, h15) else zc2 (fX12_good r0 ((1 : Int32)) h13) fun v18 h17 => some (v18, h17) else none else none else none else none else none
/-! FifthCardModel evening -/
def fX12_evening (r0 : Nat) (x1 : Int32) (x2 : Int32) (h : Zh) : Option (Int32 × Zh) := zlet h fun g =>
  if zK g r0 = 12 then zlet (zsI h r0 0 ((0 : Int32))) fun h2 => zc2 (fX12_isEvening r0 x1 h2) fun v4 h3 => if v4 = 0 then zc2 (fX12_refused r0 ((1 : Int32)) h3) fun v6 h5 => some (v6, h5) else if x2 = 0 then (zR h3 r0 37).bind fun r_7 => if zK g r_7 = 100 then if zin x1 (zL g r_7) then zc2 (fX12_good r0 (zI h3 r_7 x1.toNatClampNeg) h3) fun v11 h10 => some (v11, h10) else none else none else (zR h3 r0 38).bind fun r_12 => if zK g r_12 = 100 then if zin x1 (zL g r_12) then zc2 (fX12_good r0 (zI h3 r_12 x1.toNatClampNeg) h3) fun v16 h15 => some (v16, h15) else none else none else none
/-! FifthCardModel agreesWith -/
def fX12_agreesWith (r0 : Nat) (x1 : Int32) (x2 : Int32) (h : Zh) : Option (Int32 × Zh) := zlet h fun g =>
  if zK g r0 = 12 then (zR h r0 37).bind fun r_2 => if zK g r_2 = 100 then if zin x2 (zL g r_2) then zc2 (fX12_laysNow r0 x1 (zI h r_2 x2.toNatClampNeg) h) fun v6 h5 => (zR h5 r0 38).bind fun r_7 => if zK g r_7 = 100 then if zin x2 (zL g r_7) then if v6 = (zI h5 r_7 x2.toNatClampNeg) then some ((1 : Int32), h5) else some ((0 : Int32), h5) else none else none else none else none else none
/-! FifthCardModel agrees -/
def bX12_agrees_23 (g : Zh) (r0 : Nat) (x1 : Int32) (x2 : Int32) (x3 : Int32) (h : Zh) : Option (Nat × Int32 × Int32 × Zh) :=
  if (zI h r0 43) ≤ x3 then some (1, (x2, (x3, h))) else zc2 (fX12_agreesWith r0 x1 x3 h) fun v6 h5 => if v6 = 0 then zlet (x2 + ((0 : Int32))) fun y7 => zlet (x3 + (1 : Int32)) fun y8 => some (0, (y7, (y8, h5))) else zlet (x2 + ((1 : Int32))) fun y9 => zlet (x3 + (1 : Int32)) fun y10 => some (0, (y9, (y10, h5)))
def kX12_agrees_23 (g : Zh) (r0 : Nat) (e : Nat) (x2 : Int32) (x3 : Int32) (h : Zh) : Option (Int32 × Zh) :=
  zc2 (fX12_good r0 x2 h) fun v12 h11 => some (v12, h11)
def fX12_agrees (r0 : Nat) (x1 : Int32) (h : Zh) : Option (Int32 × Zh) := zlet h fun g =>
  if zK g r0 = 12 then zlet (zsI h r0 0 ((0 : Int32))) fun h2 => zc2 (fX12_isRule r0 x1 h2) fun v4 h3 => if v4 = 0 then zc2 (fX12_refused r0 ((1 : Int32)) h3) fun v14 h13 => some (v14, h13) else (lp (fun q : Int32 × Int32 × Zh => bX12_agrees_23 g r0 x1 q.1 q.2.1 q.2.2) zB ((0 : Int32), ((0 : Int32), h3))).bind fun q => kX12_agrees_23 g r0 q.1 q.2.1 q.2.2.1 q.2.2.2 else none
/-! FifthCardModel firstWrong -/
def bX12_firstWrong_2 (g : Zh) (r0 : Nat) (x1 : Int32) (x2 : Int32) (h : Zh) : Option (Nat × Int32 × Zh) :=
  if zK g r0 = 12 then if (zI h r0 43) ≤ x2 then some (2, (x2, h)) else zc2 (fX12_agreesWith r0 x1 x2 h) fun v3 h2 => if v3 = 0 then some (1, (x2, h2)) else zlet (x2 + (1 : Int32)) fun y4 => some (0, (y4, h2)) else none
def kX12_firstWrong_2 (g : Zh)  (e : Nat) (x2 : Int32) (h : Zh) : Option (Int32 × Zh) :=
  if e = 1 then some (x2, h) else some ((-2 : Int32), h)
def fX12_firstWrong (r0 : Nat) (x1 : Int32) (h : Zh) : Option (Int32 × Zh) := zlet h fun g =>
  (lp (fun q : Int32 × Zh => bX12_firstWrong_2 g r0 x1 q.1 q.2) zB ((0 : Int32), h)).bind fun q => kX12_firstWrong_2 g q.1 q.2.1 q.2.2
/-! FifthCardModel wrong -/
def fX12_wrong (r0 : Nat) (x1 : Int32) (h : Zh) : Option (Int32 × Zh) := zlet h fun g =>
  if zK g r0 = 12 then zlet (zsI h r0 0 ((0 : Int32))) fun h2 => zc2 (fX12_isRule r0 x1 h2) fun v4 h3 => if v4 = 0 then zc2 (fX12_refused r0 ((1 : Int32)) h3) fun v6 h5 => some (v6, h5) else zc2 (fX12_firstWrong r0 x1 h3) fun v8 h7 => zc2 (fX12_good r0 v8 h7) fun v10 h9 => some (v10, h9) else none
/-! FifthCardModel found -/
def bX12_found_22 (g : Zh) (r0 : Nat) (x1 : Int32) (x2 : Int32) (h : Zh) : Option (Nat × Int32 × Int32 × Zh) :=
  (zR h r0 3).bind fun r_3 => if zK g r_3 = 11 then if (zI h r_3 5) ≤ x2 then some (1, (x1, (x2, h))) else zc2 (fX12_firstWrong r0 x2 h) fun v6 h5 => if v6 = ((-2 : Int32)) then zlet (x1 ||| (((1 : Int32)) <<< (x2 &&& 31))) fun y9 => zlet (x2 + (1 : Int32)) fun y10 => some (0, (y9, (y10, h5))) else zlet (x1 ||| ((0 : Int32))) fun y7 => zlet (x2 + (1 : Int32)) fun y8 => some (0, (y7, (y8, h5))) else none
def kX12_found_22 (g : Zh) (r0 : Nat) (e : Nat) (x1 : Int32) (x2 : Int32) (h : Zh) : Option (Int32 × Zh) :=
  zc2 (fX12_good r0 x1 h) fun v12 h11 => some (v12, h11)
def fX12_found (r0 : Nat) (h : Zh) : Option (Int32 × Zh) := zlet h fun g =>
  if zK g r0 = 12 then zlet (zsI h r0 0 ((0 : Int32))) fun h2 => if (zR h2 r0 3).isSome = true then (lp (fun q : Int32 × Int32 × Zh => bX12_found_22 g r0 q.1 q.2.1 q.2.2) zB ((0 : Int32), ((0 : Int32), h2))).bind fun q => kX12_found_22 g r0 q.1 q.2.1 q.2.2.1 q.2.2.2 else zc2 (fX12_refused r0 ((1 : Int32)) h2) fun v14 h13 => some (v14, h13) else none
/-! FifthCardModel apartNow -/
def bX12_apartNow_5 (g : Zh) (r0 : Nat) (x1 : Int32) (x2 : Int32) (x3 : Int32) (x4 : Int32) (h : Zh) : Option (Nat × Int32 × Int32 × Zh) :=
  if zK g r0 = 12 then if (zI h r0 17) ≤ x4 then some (1, (x3, (x4, h))) else zc2 (fX12_laysNow r0 x1 x4 h) fun v3 h2 => zc2 (fX12_laysNow r0 x2 x4 h2) fun v5 h4 => if v3 = v5 then zlet (x3 + ((0 : Int32))) fun y6 => zlet (x4 + (1 : Int32)) fun y7 => some (0, (y6, (y7, h4))) else zlet (x3 + ((1 : Int32))) fun y8 => zlet (x4 + (1 : Int32)) fun y9 => some (0, (y8, (y9, h4))) else none
def kX12_apartNow_5 (g : Zh)  (e : Nat) (x3 : Int32) (x4 : Int32) (h : Zh) : Option (Int32 × Zh) :=
  some (x3, h)
def fX12_apartNow (r0 : Nat) (x1 : Int32) (x2 : Int32) (h : Zh) : Option (Int32 × Zh) := zlet h fun g =>
  (lp (fun q : Int32 × Int32 × Zh => bX12_apartNow_5 g r0 x1 x2 q.1 q.2.1 q.2.2) zB ((0 : Int32), ((0 : Int32), h))).bind fun q => kX12_apartNow_5 g q.1 q.2.1 q.2.2.1 q.2.2.2
/-! FifthCardModel areRules -/
def fX12_areRules (r0 : Nat) (x1 : Int32) (x2 : Int32) (h : Zh) : Option (Int32 × Zh) := zlet h fun g =>
  if zK g r0 = 12 then zc2 (fX12_isRule r0 x1 h) fun v3 h2 => if v3 = 0 then some ((0 : Int32), h2) else zc2 (fX12_isRule r0 x2 h2) fun v5 h4 => if v5 = 0 then some ((0 : Int32), h4) else if x1 = x2 then some ((0 : Int32), h4) else some ((1 : Int32), h4) else none
/-! FifthCardModel apart -/
def fX12_apart (r0 : Nat) (x1 : Int32) (x2 : Int32) (h : Zh) : Option (Int32 × Zh) := zlet h fun g =>
  if zK g r0 = 12 then zlet (zsI h r0 0 ((0 : Int32))) fun h2 => zc2 (fX12_areRules r0 x1 x2 h2) fun v4 h3 => if v4 = 0 then zc2 (fX12_refused r0 ((1 : Int32)) h3) fun v6 h5 => some (v6, h5) else zc2 (fX12_apartNow r0 x1 x2 h3) fun v8 h7 => zc2 (fX12_good r0 v8 h7) fun v10 h9 => some (v10, h9) else none
/-! FifthCardModel mean -/
def jX12_mean_54 (g : Zh) (r0 : Nat) (x4 : Int32) (t0 : Int32) (t1 : Nat) (h : Zh) : Option (Int32 × Zh) :=
  zc2 (fX12_divisor (zI h r0 17) x4 h) fun v8 h7 => if ¬ v8 = 0 then if zK g t1 = 12 then zc2 (fX12_good t1 (t0 / v8) h7) fun v12 h11 => some (v12, h11) else none else none
def fX12_mean (r0 : Nat) (x1 : Int32) (x2 : Int32) (x3 : Int32) (h : Zh) : Option (Int32 × Zh) := zlet h fun g =>
  if zK g r0 = 12 then zlet (zsI h r0 0 ((0 : Int32))) fun h2 => zc2 (fX12_areRules r0 x1 x2 h2) fun v4 h3 => if v4 = 0 then zc2 (fX12_refused r0 ((1 : Int32)) h3) fun v16 h15 => some (v16, h15) else zc2 (fX12_apartNow r0 x1 x2 h3) fun v6 h5 => if v6 = 0 then zc2 (fX12_refused r0 ((6 : Int32)) h5) fun v14 h13 => some (v14, h13) else if x3 = 0 then jX12_mean_54 g r0 v6 (zI h5 r0 17) r0 h5 else jX12_mean_54 g r0 v6 v6 r0 h5 else none
theorem dX12_count_0 : decode cX12_count 0 = .ok (.aload_n 0, 1) := by decide +kernel
theorem dX12_count_1 : decode cX12_count 1 = .ok (.iconst 0, 1) := by decide +kernel
theorem dX12_count_2 : decode cX12_count 2 = .ok (.putfield 86, 3) := by decide +kernel
theorem dX12_count_5 : decode cX12_count 5 = .ok (.aload_n 0, 1) := by decide +kernel
theorem dX12_count_6 : decode cX12_count 6 = .ok (.getfield 329, 3) := by decide +kernel
theorem dX12_count_9 : decode cX12_count 9 = .ok (.ifnonnull 10, 3) := by decide +kernel
theorem dX12_count_12 : decode cX12_count 12 = .ok (.aload_n 0, 1) := by decide +kernel
theorem dX12_count_13 : decode cX12_count 13 = .ok (.iconst 1, 1) := by decide +kernel
theorem dX12_count_14 : decode cX12_count 14 = .ok (.invokevirtual 92, 3) := by decide +kernel
theorem dX12_count_17 : decode cX12_count 17 = .ok (.i2l, 1) := by decide +kernel
theorem dX12_count_18 : decode cX12_count 18 = .ok (.lreturn, 1) := by decide +kernel
theorem dX12_count_19 : decode cX12_count 19 = .ok (.iload_n 1, 1) := by decide +kernel
theorem dX12_count_20 : decode cX12_count 20 = .ok (.aload_n 0, 1) := by decide +kernel
theorem dX12_count_21 : decode cX12_count 21 = .ok (.getfield 329, 3) := by decide +kernel
theorem dX12_count_24 : decode cX12_count 24 = .ok (.getfield 232, 3) := by decide +kernel
theorem dX12_count_27 : decode cX12_count 27 = .ok (.sipush 200, 3) := by decide +kernel
theorem dX12_count_30 : decode cX12_count 30 = .ok (.invokestatic 168, 3) := by decide +kernel
theorem dX12_count_33 : decode cX12_count 33 = .ok (.ifCond .ne 10, 3) := by decide +kernel
theorem dX12_count_36 : decode cX12_count 36 = .ok (.aload_n 0, 1) := by decide +kernel
theorem dX12_count_37 : decode cX12_count 37 = .ok (.iconst 2, 1) := by decide +kernel
theorem dX12_count_38 : decode cX12_count 38 = .ok (.invokevirtual 92, 3) := by decide +kernel
theorem dX12_count_41 : decode cX12_count 41 = .ok (.i2l, 1) := by decide +kernel
theorem dX12_count_42 : decode cX12_count 42 = .ok (.lreturn, 1) := by decide +kernel
theorem dX12_count_43 : decode cX12_count 43 = .ok (.aload_n 0, 1) := by decide +kernel
theorem dX12_count_44 : decode cX12_count 44 = .ok (.iconst 0, 1) := by decide +kernel
theorem dX12_count_45 : decode cX12_count 45 = .ok (.invokevirtual 96, 3) := by decide +kernel
theorem dX12_count_48 : decode cX12_count 48 = .ok (.pop, 1) := by decide +kernel
theorem dX12_count_49 : decode cX12_count 49 = .ok (.aload_n 0, 1) := by decide +kernel
theorem dX12_count_50 : decode cX12_count 50 = .ok (.iload_n 1, 1) := by decide +kernel
theorem dX12_count_51 : decode cX12_count 51 = .ok (.iload_n 2, 1) := by decide +kernel
theorem dX12_count_52 : decode cX12_count 52 = .ok (.invokevirtual 494, 3) := by decide +kernel
theorem dX12_count_55 : decode cX12_count 55 = .ok (.lreturn, 1) := by decide +kernel
theorem dX12_most_0 : decode cX12_most 0 = .ok (.aload_n 0, 1) := by decide +kernel
theorem dX12_most_1 : decode cX12_most 1 = .ok (.iconst 0, 1) := by decide +kernel
theorem dX12_most_2 : decode cX12_most 2 = .ok (.putfield 86, 3) := by decide +kernel
theorem dX12_most_5 : decode cX12_most 5 = .ok (.aload_n 0, 1) := by decide +kernel
theorem dX12_most_6 : decode cX12_most 6 = .ok (.getfield 329, 3) := by decide +kernel
theorem dX12_most_9 : decode cX12_most 9 = .ok (.ifnonnull 9, 3) := by decide +kernel
theorem dX12_most_12 : decode cX12_most 12 = .ok (.aload_n 0, 1) := by decide +kernel
theorem dX12_most_13 : decode cX12_most 13 = .ok (.iconst 1, 1) := by decide +kernel
theorem dX12_most_14 : decode cX12_most 14 = .ok (.invokevirtual 92, 3) := by decide +kernel
theorem dX12_most_17 : decode cX12_most 17 = .ok (.ireturn, 1) := by decide +kernel
theorem dX12_most_18 : decode cX12_most 18 = .ok (.sipush 200, 3) := by decide +kernel
theorem dX12_most_21 : decode cX12_most 21 = .ok (.istore_n 1, 1) := by decide +kernel
theorem dX12_most_22 : decode cX12_most 22 = .ok (.iload_n 1, 1) := by decide +kernel
theorem dX12_most_23 : decode cX12_most 23 = .ok (.aload_n 0, 1) := by decide +kernel
theorem dX12_most_24 : decode cX12_most 24 = .ok (.getfield 329, 3) := by decide +kernel
theorem dX12_most_27 : decode cX12_most 27 = .ok (.getfield 232, 3) := by decide +kernel
theorem dX12_most_30 : decode cX12_most 30 = .ok (.if_icmp .lt 31, 3) := by decide +kernel
theorem dX12_most_33 : decode cX12_most 33 = .ok (.aload_n 0, 1) := by decide +kernel
theorem dX12_most_34 : decode cX12_most 34 = .ok (.iload_n 1, 1) := by decide +kernel
theorem dX12_most_35 : decode cX12_most 35 = .ok (.iconst 0, 1) := by decide +kernel
theorem dX12_most_36 : decode cX12_most 36 = .ok (.invokevirtual 494, 3) := by decide +kernel
theorem dX12_most_39 : decode cX12_most 39 = .ok (.aload_n 0, 1) := by decide +kernel
theorem dX12_most_40 : decode cX12_most 40 = .ok (.iload_n 1, 1) := by decide +kernel
theorem dX12_most_41 : decode cX12_most 41 = .ok (.iconst 1, 1) := by decide +kernel
theorem dX12_most_42 : decode cX12_most 42 = .ok (.invokevirtual 494, 3) := by decide +kernel
theorem dX12_most_45 : decode cX12_most 45 = .ok (.lcmp, 1) := by decide +kernel
theorem dX12_most_46 : decode cX12_most 46 = .ok (.ifCond .gt 9, 3) := by decide +kernel
theorem dX12_most_49 : decode cX12_most 49 = .ok (.aload_n 0, 1) := by decide +kernel
theorem dX12_most_50 : decode cX12_most 50 = .ok (.iload_n 1, 1) := by decide +kernel
theorem dX12_most_51 : decode cX12_most 51 = .ok (.invokevirtual 96, 3) := by decide +kernel
theorem dX12_most_54 : decode cX12_most 54 = .ok (.ireturn, 1) := by decide +kernel
theorem dX12_most_55 : decode cX12_most 55 = .ok (.iinc 1 (-1), 3) := by decide +kernel
theorem dX12_most_58 : decode cX12_most 58 = .ok (.goto (-36), 3) := by decide +kernel
theorem dX12_most_61 : decode cX12_most 61 = .ok (.aload_n 0, 1) := by decide +kernel
theorem dX12_most_62 : decode cX12_most 62 = .ok (.bipush (-2), 2) := by decide +kernel
theorem dX12_most_64 : decode cX12_most 64 = .ok (.invokevirtual 96, 3) := by decide +kernel
theorem dX12_most_67 : decode cX12_most 67 = .ok (.ireturn, 1) := by decide +kernel
theorem dX12_isEvening_0 : decode cX12_isEvening 0 = .ok (.aload_n 0, 1) := by decide +kernel
theorem dX12_isEvening_1 : decode cX12_isEvening 1 = .ok (.getfield 329, 3) := by decide +kernel
theorem dX12_isEvening_4 : decode cX12_isEvening 4 = .ok (.ifnull 19, 3) := by decide +kernel
theorem dX12_isEvening_7 : decode cX12_isEvening 7 = .ok (.iload_n 1, 1) := by decide +kernel
theorem dX12_isEvening_8 : decode cX12_isEvening 8 = .ok (.ifCond .lt 15, 3) := by decide +kernel
theorem dX12_isEvening_11 : decode cX12_isEvening 11 = .ok (.iload_n 1, 1) := by decide +kernel
theorem dX12_isEvening_12 : decode cX12_isEvening 12 = .ok (.aload_n 0, 1) := by decide +kernel
theorem dX12_isEvening_13 : decode cX12_isEvening 13 = .ok (.getfield 346, 3) := by decide +kernel
theorem dX12_isEvening_16 : decode cX12_isEvening 16 = .ok (.if_icmp .ge 7, 3) := by decide +kernel
theorem dX12_isEvening_19 : decode cX12_isEvening 19 = .ok (.iconst 1, 1) := by decide +kernel
theorem dX12_isEvening_20 : decode cX12_isEvening 20 = .ok (.goto 4, 3) := by decide +kernel
theorem dX12_isEvening_23 : decode cX12_isEvening 23 = .ok (.iconst 0, 1) := by decide +kernel
theorem dX12_isEvening_24 : decode cX12_isEvening 24 = .ok (.ireturn, 1) := by decide +kernel
theorem dX12_judge_0 : decode cX12_judge 0 = .ok (.aload_n 0, 1) := by decide +kernel
theorem dX12_judge_1 : decode cX12_judge 1 = .ok (.iconst 0, 1) := by decide +kernel
theorem dX12_judge_2 : decode cX12_judge 2 = .ok (.putfield 86, 3) := by decide +kernel
theorem dX12_judge_5 : decode cX12_judge 5 = .ok (.aload_n 0, 1) := by decide +kernel
theorem dX12_judge_6 : decode cX12_judge 6 = .ok (.iload_n 1, 1) := by decide +kernel
theorem dX12_judge_7 : decode cX12_judge 7 = .ok (.invokevirtual 498, 3) := by decide +kernel
theorem dX12_judge_10 : decode cX12_judge 10 = .ok (.ifCond .eq 34, 3) := by decide +kernel
theorem dX12_judge_13 : decode cX12_judge 13 = .ok (.aload_n 0, 1) := by decide +kernel
theorem dX12_judge_14 : decode cX12_judge 14 = .ok (.aload_n 0, 1) := by decide +kernel
theorem dX12_judge_15 : decode cX12_judge 15 = .ok (.aload_n 0, 1) := by decide +kernel
theorem dX12_judge_16 : decode cX12_judge 16 = .ok (.getfield 68, 3) := by decide +kernel
theorem dX12_judge_19 : decode cX12_judge 19 = .ok (.iload_n 1, 1) := by decide +kernel
theorem dX12_judge_20 : decode cX12_judge 20 = .ok (.iaload, 1) := by decide +kernel
theorem dX12_judge_21 : decode cX12_judge 21 = .ok (.aload_n 0, 1) := by decide +kernel
theorem dX12_judge_22 : decode cX12_judge 22 = .ok (.getfield 71, 3) := by decide +kernel
theorem dX12_judge_25 : decode cX12_judge 25 = .ok (.iload_n 1, 1) := by decide +kernel
theorem dX12_judge_26 : decode cX12_judge 26 = .ok (.iaload, 1) := by decide +kernel
theorem dX12_judge_27 : decode cX12_judge 27 = .ok (.invokevirtual 385, 3) := by decide +kernel
theorem dX12_judge_30 : decode cX12_judge 30 = .ok (.ifCond .eq 7, 3) := by decide +kernel
theorem dX12_judge_33 : decode cX12_judge 33 = .ok (.iconst 1, 1) := by decide +kernel
theorem dX12_judge_34 : decode cX12_judge 34 = .ok (.goto 4, 3) := by decide +kernel
theorem dX12_judge_37 : decode cX12_judge 37 = .ok (.iconst 0, 1) := by decide +kernel
theorem dX12_judge_38 : decode cX12_judge 38 = .ok (.invokevirtual 96, 3) := by decide +kernel
theorem dX12_judge_41 : decode cX12_judge 41 = .ok (.goto 8, 3) := by decide +kernel
theorem dX12_judge_44 : decode cX12_judge 44 = .ok (.aload_n 0, 1) := by decide +kernel
theorem dX12_judge_45 : decode cX12_judge 45 = .ok (.iconst 1, 1) := by decide +kernel
theorem dX12_judge_46 : decode cX12_judge 46 = .ok (.invokevirtual 92, 3) := by decide +kernel
theorem dX12_judge_49 : decode cX12_judge 49 = .ok (.ireturn, 1) := by decide +kernel
theorem dX12_evening_0 : decode cX12_evening 0 = .ok (.aload_n 0, 1) := by decide +kernel
theorem dX12_evening_1 : decode cX12_evening 1 = .ok (.iconst 0, 1) := by decide +kernel
theorem dX12_evening_2 : decode cX12_evening 2 = .ok (.putfield 86, 3) := by decide +kernel
theorem dX12_evening_5 : decode cX12_evening 5 = .ok (.aload_n 0, 1) := by decide +kernel
theorem dX12_evening_6 : decode cX12_evening 6 = .ok (.iload_n 1, 1) := by decide +kernel
theorem dX12_evening_7 : decode cX12_evening 7 = .ok (.invokevirtual 498, 3) := by decide +kernel
theorem dX12_evening_10 : decode cX12_evening 10 = .ok (.ifCond .eq 29, 3) := by decide +kernel
theorem dX12_evening_13 : decode cX12_evening 13 = .ok (.aload_n 0, 1) := by decide +kernel
theorem dX12_evening_14 : decode cX12_evening 14 = .ok (.iload_n 2, 1) := by decide +kernel
theorem dX12_evening_15 : decode cX12_evening 15 = .ok (.ifCond .eq 12, 3) := by decide +kernel
theorem dX12_evening_18 : decode cX12_evening 18 = .ok (.aload_n 0, 1) := by decide +kernel
theorem dX12_evening_19 : decode cX12_evening 19 = .ok (.getfield 71, 3) := by decide +kernel
theorem dX12_evening_22 : decode cX12_evening 22 = .ok (.iload_n 1, 1) := by decide +kernel
theorem dX12_evening_23 : decode cX12_evening 23 = .ok (.iaload, 1) := by decide +kernel
theorem dX12_evening_24 : decode cX12_evening 24 = .ok (.goto 9, 3) := by decide +kernel
theorem dX12_evening_27 : decode cX12_evening 27 = .ok (.aload_n 0, 1) := by decide +kernel
theorem dX12_evening_28 : decode cX12_evening 28 = .ok (.getfield 68, 3) := by decide +kernel
theorem dX12_evening_31 : decode cX12_evening 31 = .ok (.iload_n 1, 1) := by decide +kernel
theorem dX12_evening_32 : decode cX12_evening 32 = .ok (.iaload, 1) := by decide +kernel
theorem dX12_evening_33 : decode cX12_evening 33 = .ok (.invokevirtual 96, 3) := by decide +kernel
theorem dX12_evening_36 : decode cX12_evening 36 = .ok (.goto 8, 3) := by decide +kernel
theorem dX12_evening_39 : decode cX12_evening 39 = .ok (.aload_n 0, 1) := by decide +kernel
theorem dX12_evening_40 : decode cX12_evening 40 = .ok (.iconst 1, 1) := by decide +kernel
theorem dX12_evening_41 : decode cX12_evening 41 = .ok (.invokevirtual 92, 3) := by decide +kernel
theorem dX12_evening_44 : decode cX12_evening 44 = .ok (.ireturn, 1) := by decide +kernel
theorem dX12_agreesWith_0 : decode cX12_agreesWith 0 = .ok (.aload_n 0, 1) := by decide +kernel
theorem dX12_agreesWith_1 : decode cX12_agreesWith 1 = .ok (.iload_n 1, 1) := by decide +kernel
theorem dX12_agreesWith_2 : decode cX12_agreesWith 2 = .ok (.aload_n 0, 1) := by decide +kernel
theorem dX12_agreesWith_3 : decode cX12_agreesWith 3 = .ok (.getfield 68, 3) := by decide +kernel
theorem dX12_agreesWith_6 : decode cX12_agreesWith 6 = .ok (.iload_n 2, 1) := by decide +kernel
theorem dX12_agreesWith_7 : decode cX12_agreesWith 7 = .ok (.iaload, 1) := by decide +kernel
theorem dX12_agreesWith_8 : decode cX12_agreesWith 8 = .ok (.invokevirtual 433, 3) := by decide +kernel
theorem dX12_agreesWith_11 : decode cX12_agreesWith 11 = .ok (.aload_n 0, 1) := by decide +kernel
theorem dX12_agreesWith_12 : decode cX12_agreesWith 12 = .ok (.getfield 71, 3) := by decide +kernel
theorem dX12_agreesWith_15 : decode cX12_agreesWith 15 = .ok (.iload_n 2, 1) := by decide +kernel
theorem dX12_agreesWith_16 : decode cX12_agreesWith 16 = .ok (.iaload, 1) := by decide +kernel
theorem dX12_agreesWith_17 : decode cX12_agreesWith 17 = .ok (.if_icmp .ne 7, 3) := by decide +kernel
theorem dX12_agreesWith_20 : decode cX12_agreesWith 20 = .ok (.iconst 1, 1) := by decide +kernel
theorem dX12_agreesWith_21 : decode cX12_agreesWith 21 = .ok (.goto 4, 3) := by decide +kernel
theorem dX12_agreesWith_24 : decode cX12_agreesWith 24 = .ok (.iconst 0, 1) := by decide +kernel
theorem dX12_agreesWith_25 : decode cX12_agreesWith 25 = .ok (.ireturn, 1) := by decide +kernel
theorem dX12_agrees_0 : decode cX12_agrees 0 = .ok (.aload_n 0, 1) := by decide +kernel
theorem dX12_agrees_1 : decode cX12_agrees 1 = .ok (.iconst 0, 1) := by decide +kernel
theorem dX12_agrees_2 : decode cX12_agrees 2 = .ok (.putfield 86, 3) := by decide +kernel
theorem dX12_agrees_5 : decode cX12_agrees 5 = .ok (.aload_n 0, 1) := by decide +kernel
theorem dX12_agrees_6 : decode cX12_agrees 6 = .ok (.iload_n 1, 1) := by decide +kernel
theorem dX12_agrees_7 : decode cX12_agrees 7 = .ok (.invokevirtual 430, 3) := by decide +kernel
theorem dX12_agrees_10 : decode cX12_agrees 10 = .ok (.ifCond .ne 9, 3) := by decide +kernel
theorem dX12_agrees_13 : decode cX12_agrees 13 = .ok (.aload_n 0, 1) := by decide +kernel
theorem dX12_agrees_14 : decode cX12_agrees 14 = .ok (.iconst 1, 1) := by decide +kernel
theorem dX12_agrees_15 : decode cX12_agrees 15 = .ok (.invokevirtual 92, 3) := by decide +kernel
theorem dX12_agrees_18 : decode cX12_agrees 18 = .ok (.ireturn, 1) := by decide +kernel
theorem dX12_agrees_19 : decode cX12_agrees 19 = .ok (.iconst 0, 1) := by decide +kernel
theorem dX12_agrees_20 : decode cX12_agrees 20 = .ok (.istore_n 2, 1) := by decide +kernel
theorem dX12_agrees_21 : decode cX12_agrees 21 = .ok (.iconst 0, 1) := by decide +kernel
theorem dX12_agrees_22 : decode cX12_agrees 22 = .ok (.istore_n 3, 1) := by decide +kernel
theorem dX12_agrees_23 : decode cX12_agrees 23 = .ok (.iload_n 3, 1) := by decide +kernel
theorem dX12_agrees_24 : decode cX12_agrees 24 = .ok (.aload_n 0, 1) := by decide +kernel
theorem dX12_agrees_25 : decode cX12_agrees 25 = .ok (.getfield 346, 3) := by decide +kernel
theorem dX12_agrees_28 : decode cX12_agrees 28 = .ok (.if_icmp .ge 26, 3) := by decide +kernel
theorem dX12_agrees_31 : decode cX12_agrees 31 = .ok (.iload_n 2, 1) := by decide +kernel
theorem dX12_agrees_32 : decode cX12_agrees 32 = .ok (.aload_n 0, 1) := by decide +kernel
theorem dX12_agrees_33 : decode cX12_agrees 33 = .ok (.iload_n 1, 1) := by decide +kernel
theorem dX12_agrees_34 : decode cX12_agrees 34 = .ok (.iload_n 3, 1) := by decide +kernel
theorem dX12_agrees_35 : decode cX12_agrees 35 = .ok (.invokevirtual 501, 3) := by decide +kernel
theorem dX12_agrees_38 : decode cX12_agrees 38 = .ok (.ifCond .eq 7, 3) := by decide +kernel
theorem dX12_agrees_41 : decode cX12_agrees 41 = .ok (.iconst 1, 1) := by decide +kernel
theorem dX12_agrees_42 : decode cX12_agrees 42 = .ok (.goto 4, 3) := by decide +kernel
theorem dX12_agrees_45 : decode cX12_agrees 45 = .ok (.iconst 0, 1) := by decide +kernel
theorem dX12_agrees_46 : decode cX12_agrees 46 = .ok (.iadd, 1) := by decide +kernel
theorem dX12_agrees_47 : decode cX12_agrees 47 = .ok (.istore_n 2, 1) := by decide +kernel
theorem dX12_agrees_48 : decode cX12_agrees 48 = .ok (.iinc 3 1, 3) := by decide +kernel
theorem dX12_agrees_51 : decode cX12_agrees 51 = .ok (.goto (-28), 3) := by decide +kernel
theorem dX12_agrees_54 : decode cX12_agrees 54 = .ok (.aload_n 0, 1) := by decide +kernel
theorem dX12_agrees_55 : decode cX12_agrees 55 = .ok (.iload_n 2, 1) := by decide +kernel
theorem dX12_agrees_56 : decode cX12_agrees 56 = .ok (.invokevirtual 96, 3) := by decide +kernel
theorem dX12_agrees_59 : decode cX12_agrees 59 = .ok (.ireturn, 1) := by decide +kernel
theorem dX12_firstWrong_0 : decode cX12_firstWrong 0 = .ok (.iconst 0, 1) := by decide +kernel
theorem dX12_firstWrong_1 : decode cX12_firstWrong 1 = .ok (.istore_n 2, 1) := by decide +kernel
theorem dX12_firstWrong_2 : decode cX12_firstWrong 2 = .ok (.iload_n 2, 1) := by decide +kernel
theorem dX12_firstWrong_3 : decode cX12_firstWrong 3 = .ok (.aload_n 0, 1) := by decide +kernel
theorem dX12_firstWrong_4 : decode cX12_firstWrong 4 = .ok (.getfield 346, 3) := by decide +kernel
theorem dX12_firstWrong_7 : decode cX12_firstWrong 7 = .ok (.if_icmp .ge 20, 3) := by decide +kernel
theorem dX12_firstWrong_10 : decode cX12_firstWrong 10 = .ok (.aload_n 0, 1) := by decide +kernel
theorem dX12_firstWrong_11 : decode cX12_firstWrong 11 = .ok (.iload_n 1, 1) := by decide +kernel
theorem dX12_firstWrong_12 : decode cX12_firstWrong 12 = .ok (.iload_n 2, 1) := by decide +kernel
theorem dX12_firstWrong_13 : decode cX12_firstWrong 13 = .ok (.invokevirtual 501, 3) := by decide +kernel
theorem dX12_firstWrong_16 : decode cX12_firstWrong 16 = .ok (.ifCond .ne 5, 3) := by decide +kernel
theorem dX12_firstWrong_19 : decode cX12_firstWrong 19 = .ok (.iload_n 2, 1) := by decide +kernel
theorem dX12_firstWrong_20 : decode cX12_firstWrong 20 = .ok (.ireturn, 1) := by decide +kernel
theorem dX12_firstWrong_21 : decode cX12_firstWrong 21 = .ok (.iinc 2 1, 3) := by decide +kernel
theorem dX12_firstWrong_24 : decode cX12_firstWrong 24 = .ok (.goto (-22), 3) := by decide +kernel
theorem dX12_firstWrong_27 : decode cX12_firstWrong 27 = .ok (.bipush (-2), 2) := by decide +kernel
theorem dX12_firstWrong_29 : decode cX12_firstWrong 29 = .ok (.ireturn, 1) := by decide +kernel
theorem dX12_wrong_0 : decode cX12_wrong 0 = .ok (.aload_n 0, 1) := by decide +kernel
theorem dX12_wrong_1 : decode cX12_wrong 1 = .ok (.iconst 0, 1) := by decide +kernel
theorem dX12_wrong_2 : decode cX12_wrong 2 = .ok (.putfield 86, 3) := by decide +kernel
theorem dX12_wrong_5 : decode cX12_wrong 5 = .ok (.aload_n 0, 1) := by decide +kernel
theorem dX12_wrong_6 : decode cX12_wrong 6 = .ok (.iload_n 1, 1) := by decide +kernel
theorem dX12_wrong_7 : decode cX12_wrong 7 = .ok (.invokevirtual 430, 3) := by decide +kernel
theorem dX12_wrong_10 : decode cX12_wrong 10 = .ok (.ifCond .eq 15, 3) := by decide +kernel
theorem dX12_wrong_13 : decode cX12_wrong 13 = .ok (.aload_n 0, 1) := by decide +kernel
theorem dX12_wrong_14 : decode cX12_wrong 14 = .ok (.aload_n 0, 1) := by decide +kernel
theorem dX12_wrong_15 : decode cX12_wrong 15 = .ok (.iload_n 1, 1) := by decide +kernel
theorem dX12_wrong_16 : decode cX12_wrong 16 = .ok (.invokevirtual 504, 3) := by decide +kernel
theorem dX12_wrong_19 : decode cX12_wrong 19 = .ok (.invokevirtual 96, 3) := by decide +kernel
theorem dX12_wrong_22 : decode cX12_wrong 22 = .ok (.goto 8, 3) := by decide +kernel
theorem dX12_wrong_25 : decode cX12_wrong 25 = .ok (.aload_n 0, 1) := by decide +kernel
theorem dX12_wrong_26 : decode cX12_wrong 26 = .ok (.iconst 1, 1) := by decide +kernel
theorem dX12_wrong_27 : decode cX12_wrong 27 = .ok (.invokevirtual 92, 3) := by decide +kernel
theorem dX12_wrong_30 : decode cX12_wrong 30 = .ok (.ireturn, 1) := by decide +kernel
theorem dX12_found_0 : decode cX12_found 0 = .ok (.aload_n 0, 1) := by decide +kernel
theorem dX12_found_1 : decode cX12_found 1 = .ok (.iconst 0, 1) := by decide +kernel
theorem dX12_found_2 : decode cX12_found 2 = .ok (.putfield 86, 3) := by decide +kernel
theorem dX12_found_5 : decode cX12_found 5 = .ok (.aload_n 0, 1) := by decide +kernel
theorem dX12_found_6 : decode cX12_found 6 = .ok (.getfield 329, 3) := by decide +kernel
theorem dX12_found_9 : decode cX12_found 9 = .ok (.ifnonnull 9, 3) := by decide +kernel
theorem dX12_found_12 : decode cX12_found 12 = .ok (.aload_n 0, 1) := by decide +kernel
theorem dX12_found_13 : decode cX12_found 13 = .ok (.iconst 1, 1) := by decide +kernel
theorem dX12_found_14 : decode cX12_found 14 = .ok (.invokevirtual 92, 3) := by decide +kernel
theorem dX12_found_17 : decode cX12_found 17 = .ok (.ireturn, 1) := by decide +kernel
theorem dX12_found_18 : decode cX12_found 18 = .ok (.iconst 0, 1) := by decide +kernel
theorem dX12_found_19 : decode cX12_found 19 = .ok (.istore_n 1, 1) := by decide +kernel
theorem dX12_found_20 : decode cX12_found 20 = .ok (.iconst 0, 1) := by decide +kernel
theorem dX12_found_21 : decode cX12_found 21 = .ok (.istore_n 2, 1) := by decide +kernel
theorem dX12_found_22 : decode cX12_found 22 = .ok (.iload_n 2, 1) := by decide +kernel
theorem dX12_found_23 : decode cX12_found 23 = .ok (.aload_n 0, 1) := by decide +kernel
theorem dX12_found_24 : decode cX12_found 24 = .ok (.getfield 329, 3) := by decide +kernel
theorem dX12_found_27 : decode cX12_found 27 = .ok (.getfield 259, 3) := by decide +kernel
theorem dX12_found_30 : decode cX12_found 30 = .ok (.if_icmp .ge 29, 3) := by decide +kernel
theorem dX12_found_33 : decode cX12_found 33 = .ok (.iload_n 1, 1) := by decide +kernel
theorem dX12_found_34 : decode cX12_found 34 = .ok (.aload_n 0, 1) := by decide +kernel
theorem dX12_found_35 : decode cX12_found 35 = .ok (.iload_n 2, 1) := by decide +kernel
theorem dX12_found_36 : decode cX12_found 36 = .ok (.invokevirtual 504, 3) := by decide +kernel
theorem dX12_found_39 : decode cX12_found 39 = .ok (.bipush (-2), 2) := by decide +kernel
theorem dX12_found_41 : decode cX12_found 41 = .ok (.if_icmp .ne 9, 3) := by decide +kernel
theorem dX12_found_44 : decode cX12_found 44 = .ok (.iconst 1, 1) := by decide +kernel
theorem dX12_found_45 : decode cX12_found 45 = .ok (.iload_n 2, 1) := by decide +kernel
theorem dX12_found_46 : decode cX12_found 46 = .ok (.ishl, 1) := by decide +kernel
theorem dX12_found_47 : decode cX12_found 47 = .ok (.goto 4, 3) := by decide +kernel
theorem dX12_found_50 : decode cX12_found 50 = .ok (.iconst 0, 1) := by decide +kernel
theorem dX12_found_51 : decode cX12_found 51 = .ok (.ior, 1) := by decide +kernel
theorem dX12_found_52 : decode cX12_found 52 = .ok (.istore_n 1, 1) := by decide +kernel
theorem dX12_found_53 : decode cX12_found 53 = .ok (.iinc 2 1, 3) := by decide +kernel
theorem dX12_found_56 : decode cX12_found 56 = .ok (.goto (-34), 3) := by decide +kernel
theorem dX12_found_59 : decode cX12_found 59 = .ok (.aload_n 0, 1) := by decide +kernel
theorem dX12_found_60 : decode cX12_found 60 = .ok (.iload_n 1, 1) := by decide +kernel
theorem dX12_found_61 : decode cX12_found 61 = .ok (.invokevirtual 96, 3) := by decide +kernel
theorem dX12_found_64 : decode cX12_found 64 = .ok (.ireturn, 1) := by decide +kernel
theorem dX12_apartNow_0 : decode cX12_apartNow 0 = .ok (.iconst 0, 1) := by decide +kernel
theorem dX12_apartNow_1 : decode cX12_apartNow 1 = .ok (.istore_n 3, 1) := by decide +kernel
theorem dX12_apartNow_2 : decode cX12_apartNow 2 = .ok (.iconst 0, 1) := by decide +kernel
theorem dX12_apartNow_3 : decode cX12_apartNow 3 = .ok (.istore 4, 2) := by decide +kernel
theorem dX12_apartNow_5 : decode cX12_apartNow 5 = .ok (.iload 4, 2) := by decide +kernel
theorem dX12_apartNow_7 : decode cX12_apartNow 7 = .ok (.aload_n 0, 1) := by decide +kernel
theorem dX12_apartNow_8 : decode cX12_apartNow 8 = .ok (.getfield 356, 3) := by decide +kernel
theorem dX12_apartNow_11 : decode cX12_apartNow 11 = .ok (.if_icmp .ge 34, 3) := by decide +kernel
theorem dX12_apartNow_14 : decode cX12_apartNow 14 = .ok (.iload_n 3, 1) := by decide +kernel
theorem dX12_apartNow_15 : decode cX12_apartNow 15 = .ok (.aload_n 0, 1) := by decide +kernel
theorem dX12_apartNow_16 : decode cX12_apartNow 16 = .ok (.iload_n 1, 1) := by decide +kernel
theorem dX12_apartNow_17 : decode cX12_apartNow 17 = .ok (.iload 4, 2) := by decide +kernel
theorem dX12_apartNow_19 : decode cX12_apartNow 19 = .ok (.invokevirtual 433, 3) := by decide +kernel
theorem dX12_apartNow_22 : decode cX12_apartNow 22 = .ok (.aload_n 0, 1) := by decide +kernel
theorem dX12_apartNow_23 : decode cX12_apartNow 23 = .ok (.iload_n 2, 1) := by decide +kernel
theorem dX12_apartNow_24 : decode cX12_apartNow 24 = .ok (.iload 4, 2) := by decide +kernel
theorem dX12_apartNow_26 : decode cX12_apartNow 26 = .ok (.invokevirtual 433, 3) := by decide +kernel
theorem dX12_apartNow_29 : decode cX12_apartNow 29 = .ok (.if_icmp .eq 7, 3) := by decide +kernel
theorem dX12_apartNow_32 : decode cX12_apartNow 32 = .ok (.iconst 1, 1) := by decide +kernel
theorem dX12_apartNow_33 : decode cX12_apartNow 33 = .ok (.goto 4, 3) := by decide +kernel
theorem dX12_apartNow_36 : decode cX12_apartNow 36 = .ok (.iconst 0, 1) := by decide +kernel
theorem dX12_apartNow_37 : decode cX12_apartNow 37 = .ok (.iadd, 1) := by decide +kernel
theorem dX12_apartNow_38 : decode cX12_apartNow 38 = .ok (.istore_n 3, 1) := by decide +kernel
theorem dX12_apartNow_39 : decode cX12_apartNow 39 = .ok (.iinc 4 1, 3) := by decide +kernel
theorem dX12_apartNow_42 : decode cX12_apartNow 42 = .ok (.goto (-37), 3) := by decide +kernel
theorem dX12_apartNow_45 : decode cX12_apartNow 45 = .ok (.iload_n 3, 1) := by decide +kernel
theorem dX12_apartNow_46 : decode cX12_apartNow 46 = .ok (.ireturn, 1) := by decide +kernel
theorem dX12_areRules_0 : decode cX12_areRules 0 = .ok (.aload_n 0, 1) := by decide +kernel
theorem dX12_areRules_1 : decode cX12_areRules 1 = .ok (.iload_n 1, 1) := by decide +kernel
theorem dX12_areRules_2 : decode cX12_areRules 2 = .ok (.invokevirtual 430, 3) := by decide +kernel
theorem dX12_areRules_5 : decode cX12_areRules 5 = .ok (.ifCond .eq 20, 3) := by decide +kernel
theorem dX12_areRules_8 : decode cX12_areRules 8 = .ok (.aload_n 0, 1) := by decide +kernel
theorem dX12_areRules_9 : decode cX12_areRules 9 = .ok (.iload_n 2, 1) := by decide +kernel
theorem dX12_areRules_10 : decode cX12_areRules 10 = .ok (.invokevirtual 430, 3) := by decide +kernel
theorem dX12_areRules_13 : decode cX12_areRules 13 = .ok (.ifCond .eq 12, 3) := by decide +kernel
theorem dX12_areRules_16 : decode cX12_areRules 16 = .ok (.iload_n 1, 1) := by decide +kernel
theorem dX12_areRules_17 : decode cX12_areRules 17 = .ok (.iload_n 2, 1) := by decide +kernel
theorem dX12_areRules_18 : decode cX12_areRules 18 = .ok (.if_icmp .eq 7, 3) := by decide +kernel
theorem dX12_areRules_21 : decode cX12_areRules 21 = .ok (.iconst 1, 1) := by decide +kernel
theorem dX12_areRules_22 : decode cX12_areRules 22 = .ok (.goto 4, 3) := by decide +kernel
theorem dX12_areRules_25 : decode cX12_areRules 25 = .ok (.iconst 0, 1) := by decide +kernel
theorem dX12_areRules_26 : decode cX12_areRules 26 = .ok (.ireturn, 1) := by decide +kernel
theorem dX12_apart_0 : decode cX12_apart 0 = .ok (.aload_n 0, 1) := by decide +kernel
theorem dX12_apart_1 : decode cX12_apart 1 = .ok (.iconst 0, 1) := by decide +kernel
theorem dX12_apart_2 : decode cX12_apart 2 = .ok (.putfield 86, 3) := by decide +kernel
theorem dX12_apart_5 : decode cX12_apart 5 = .ok (.aload_n 0, 1) := by decide +kernel
theorem dX12_apart_6 : decode cX12_apart 6 = .ok (.iload_n 1, 1) := by decide +kernel
theorem dX12_apart_7 : decode cX12_apart 7 = .ok (.iload_n 2, 1) := by decide +kernel
theorem dX12_apart_8 : decode cX12_apart 8 = .ok (.invokevirtual 507, 3) := by decide +kernel
theorem dX12_apart_11 : decode cX12_apart 11 = .ok (.ifCond .eq 16, 3) := by decide +kernel
theorem dX12_apart_14 : decode cX12_apart 14 = .ok (.aload_n 0, 1) := by decide +kernel
theorem dX12_apart_15 : decode cX12_apart 15 = .ok (.aload_n 0, 1) := by decide +kernel
theorem dX12_apart_16 : decode cX12_apart 16 = .ok (.iload_n 1, 1) := by decide +kernel
theorem dX12_apart_17 : decode cX12_apart 17 = .ok (.iload_n 2, 1) := by decide +kernel
theorem dX12_apart_18 : decode cX12_apart 18 = .ok (.invokevirtual 510, 3) := by decide +kernel
theorem dX12_apart_21 : decode cX12_apart 21 = .ok (.invokevirtual 96, 3) := by decide +kernel
theorem dX12_apart_24 : decode cX12_apart 24 = .ok (.goto 8, 3) := by decide +kernel
theorem dX12_apart_27 : decode cX12_apart 27 = .ok (.aload_n 0, 1) := by decide +kernel
theorem dX12_apart_28 : decode cX12_apart 28 = .ok (.iconst 1, 1) := by decide +kernel
theorem dX12_apart_29 : decode cX12_apart 29 = .ok (.invokevirtual 92, 3) := by decide +kernel
theorem dX12_apart_32 : decode cX12_apart 32 = .ok (.ireturn, 1) := by decide +kernel
theorem dX12_mean_0 : decode cX12_mean 0 = .ok (.aload_n 0, 1) := by decide +kernel
theorem dX12_mean_1 : decode cX12_mean 1 = .ok (.iconst 0, 1) := by decide +kernel
theorem dX12_mean_2 : decode cX12_mean 2 = .ok (.putfield 86, 3) := by decide +kernel
theorem dX12_mean_5 : decode cX12_mean 5 = .ok (.aload_n 0, 1) := by decide +kernel
theorem dX12_mean_6 : decode cX12_mean 6 = .ok (.iload_n 1, 1) := by decide +kernel
theorem dX12_mean_7 : decode cX12_mean 7 = .ok (.iload_n 2, 1) := by decide +kernel
theorem dX12_mean_8 : decode cX12_mean 8 = .ok (.invokevirtual 507, 3) := by decide +kernel
theorem dX12_mean_11 : decode cX12_mean 11 = .ok (.ifCond .ne 9, 3) := by decide +kernel
theorem dX12_mean_14 : decode cX12_mean 14 = .ok (.aload_n 0, 1) := by decide +kernel
theorem dX12_mean_15 : decode cX12_mean 15 = .ok (.iconst 1, 1) := by decide +kernel
theorem dX12_mean_16 : decode cX12_mean 16 = .ok (.invokevirtual 92, 3) := by decide +kernel
theorem dX12_mean_19 : decode cX12_mean 19 = .ok (.ireturn, 1) := by decide +kernel
theorem dX12_mean_20 : decode cX12_mean 20 = .ok (.aload_n 0, 1) := by decide +kernel
theorem dX12_mean_21 : decode cX12_mean 21 = .ok (.iload_n 1, 1) := by decide +kernel
theorem dX12_mean_22 : decode cX12_mean 22 = .ok (.iload_n 2, 1) := by decide +kernel
theorem dX12_mean_23 : decode cX12_mean 23 = .ok (.invokevirtual 510, 3) := by decide +kernel
theorem dX12_mean_26 : decode cX12_mean 26 = .ok (.istore 4, 2) := by decide +kernel
theorem dX12_mean_28 : decode cX12_mean 28 = .ok (.iload 4, 2) := by decide +kernel
theorem dX12_mean_30 : decode cX12_mean 30 = .ok (.ifCond .ne 10, 3) := by decide +kernel
theorem dX12_mean_33 : decode cX12_mean 33 = .ok (.aload_n 0, 1) := by decide +kernel
theorem dX12_mean_34 : decode cX12_mean 34 = .ok (.bipush 6, 2) := by decide +kernel
theorem dX12_mean_36 : decode cX12_mean 36 = .ok (.invokevirtual 92, 3) := by decide +kernel
theorem dX12_mean_39 : decode cX12_mean 39 = .ok (.ireturn, 1) := by decide +kernel
theorem dX12_mean_40 : decode cX12_mean 40 = .ok (.aload_n 0, 1) := by decide +kernel
theorem dX12_mean_41 : decode cX12_mean 41 = .ok (.iload_n 3, 1) := by decide +kernel
theorem dX12_mean_42 : decode cX12_mean 42 = .ok (.ifCond .eq 8, 3) := by decide +kernel
theorem dX12_mean_45 : decode cX12_mean 45 = .ok (.iload 4, 2) := by decide +kernel
theorem dX12_mean_47 : decode cX12_mean 47 = .ok (.goto 7, 3) := by decide +kernel
theorem dX12_mean_50 : decode cX12_mean 50 = .ok (.aload_n 0, 1) := by decide +kernel
theorem dX12_mean_51 : decode cX12_mean 51 = .ok (.getfield 356, 3) := by decide +kernel
theorem dX12_mean_54 : decode cX12_mean 54 = .ok (.aload_n 0, 1) := by decide +kernel
theorem dX12_mean_55 : decode cX12_mean 55 = .ok (.getfield 356, 3) := by decide +kernel
theorem dX12_mean_58 : decode cX12_mean 58 = .ok (.iload 4, 2) := by decide +kernel
theorem dX12_mean_60 : decode cX12_mean 60 = .ok (.invokestatic 513, 3) := by decide +kernel
theorem dX12_mean_63 : decode cX12_mean 63 = .ok (.idiv, 1) := by decide +kernel
theorem dX12_mean_64 : decode cX12_mean 64 = .ok (.invokevirtual 96, 3) := by decide +kernel
theorem dX12_mean_67 : decode cX12_mean 67 = .ok (.ireturn, 1) := by decide +kernel
set_option maxHeartbeats 4000000 in
set_option maxRecDepth 100000 in
theorem sX12_count {l : Launch} {D : va_G} {cA : Nat → ClassId} {base : Nat} {sA : Nat → Nat} {r0 : Nat} {x1 : Int32} {x2 : Int32} {h hE : Zh} {rE : Int64} (hf : fX12_count r0 x1 x2 h = some (rE, hE)) : zC l yX12_count cX12_count 3 (some .long) 4 88 D cA base sA [.ref (base + r0), .int x1, .int x2] h (some (.long rE)) hE := by
  refine g_entry RX12 (by decide) rfl (Nat.le_of_ble_eq_true rfl) ?_
  intro p e s m args below meth c X hr
  unfold fX12_count at hf
  have hf := zlet_n (x := h) rfl hf
  show zG p l e { frames := 4, cells := 0, slots := 0, locals := 88 } s m args below meth c (MQ below (zQ D cA base h hE (some (.long rE))) args s 0 0 (zA base)) 3 D cA base h 0 [(0, .ref (base + r0)), (1, .int x1), (2, .int x2)] [] h
  refine g_aload_n X 0 dX12_count_0 rfl ?_
  refine g_iconst X (v := 0) dX12_count_1 (by decide) ?_
  obtain ⟨hk1, hf⟩ := zite hf
  refine g_putI X zf12 hk1 0 (by decide) w_f_RX12_86 rfl rfl rfl dX12_count_2 ?_
  refine g_hp (fun h2 eh2 => ?_)
  have hf := zlet_n eh2 hf
  refine g_aload_n X 0 dX12_count_5 rfl ?_
  refine g_get X zf12 hk1 3 (by decide) w_f_RX12_329 rfl rfl dX12_count_6 ?_
  refine g_ifnonnull X 19 dX12_count_9 (by decide) (fun _ hq => ?_) (fun hq => ?_)
  · have hf := zpos (by rw [hq]; rfl) hf
    refine g_iload_n X 1 dX12_count_19 rfl ?_
    refine g_aload_n X 0 dX12_count_20 rfl ?_
    obtain ⟨r_3, hr_3, hf⟩ := zbd hf
    refine g_get X zf12 hk1 3 (by decide) w_f_RX12_329 rfl (zfv_r hr_3 rfl) dX12_count_21 ?_
    obtain ⟨hk4, hf⟩ := zite hf
    refine g_getN X zf11 hk4 2 (by decide) w_fn_RX12_232 rfl rfl dX12_count_24 ?_
    refine g_sipush X (v := 200) dX12_count_27 (by decide) ?_
    obtain ⟨v6, h5, hch5, hf⟩ := zc2_e hf
    refine g_callS X 3 (sX12_in hch5) ysX12_in w_ml_RX12_168 w_static_X12_in w_ini_RX12 w_code_X12_in (by decide) rfl (st := []) rfl rfl (Nat.le_of_ble_eq_true rfl) dX12_count_30 ?_
    refine g_if_ne X 43 dX12_count_33 (by decide) (fun hq => ?_) (fun hq => ?_)
    · have hf := zneg hq hf
      refine g_aload_n X 0 dX12_count_43 rfl ?_
      refine g_iconst X (v := 0) dX12_count_44 (by decide) ?_
      obtain ⟨v8, h7, hch7, hf⟩ := zc2_e hf
      refine g_callV X 1 (sX12_good hch7) zf12 hk1 ydX12_good w_ml_RX12_96 w_instanceMethod_X12_good w_sel_X12_good w_ini_RX12 w_code_X12_good (by decide) rfl (st := []) rfl rfl (Nat.le_of_ble_eq_true rfl) dX12_count_45 ?_
      refine g_pop X dX12_count_48 rfl ?_
      refine g_aload_n X 0 dX12_count_49 rfl ?_
      refine g_iload_n X 1 dX12_count_50 rfl ?_
      refine g_iload_n X 2 dX12_count_51 rfl ?_
      obtain ⟨v10, h9, hch9, hf⟩ := zc2_e hf
      refine g_callV X 2 (sX12_countOf hch9) zf12 hk1 ydX12_countOf w_ml_RX12_494 w_instanceMethod_X12_countOf w_sel_X12_countOf w_ini_RX12 w_code_X12_countOf (by decide) rfl (st := []) rfl rfl (Nat.le_of_ble_eq_true rfl) dX12_count_52 ?_
      obtain ⟨rfl, rfl⟩ := zsm hf
      exact g_lret X hr dX12_count_55
    · have hf := zpos hq hf
      refine g_aload_n X 0 dX12_count_36 rfl ?_
      refine g_iconst X (v := 2) dX12_count_37 (by decide) ?_
      obtain ⟨v12, h11, hch11, hf⟩ := zc2_e hf
      refine g_callV X 1 (sX12_refused hch11) zf12 hk1 ydX12_refused w_ml_RX12_92 w_instanceMethod_X12_refused w_sel_X12_refused w_ini_RX12 w_code_X12_refused (by decide) rfl (st := []) rfl rfl (Nat.le_of_ble_eq_true rfl) dX12_count_38 ?_
      refine g_i2l X dX12_count_41 ?_
      obtain ⟨rfl, rfl⟩ := zsm hf
      exact g_lret X hr dX12_count_42
  · have hf := zneg (by rw [hq]; decide) hf
    refine g_aload_n X 0 dX12_count_12 rfl ?_
    refine g_iconst X (v := 1) dX12_count_13 (by decide) ?_
    obtain ⟨v14, h13, hch13, hf⟩ := zc2_e hf
    refine g_callV X 1 (sX12_refused hch13) zf12 hk1 ydX12_refused w_ml_RX12_92 w_instanceMethod_X12_refused w_sel_X12_refused w_ini_RX12 w_code_X12_refused (by decide) rfl (st := []) rfl rfl (Nat.le_of_ble_eq_true rfl) dX12_count_14 ?_
    refine g_i2l X dX12_count_17 ?_
    obtain ⟨rfl, rfl⟩ := zsm hf
    exact g_lret X hr dX12_count_18

set_option maxHeartbeats 4000000 in
set_option maxRecDepth 100000 in
theorem sX12_most {l : Launch} {D : va_G} {cA : Nat → ClassId} {base : Nat} {sA : Nat → Nat} {r0 : Nat} {h hE : Zh} {rE : Int32} (hf : fX12_most r0 h = some (rE, hE)) : zC l yX12_most cX12_most 2 (some .int) 4 88 D cA base sA [.ref (base + r0)] h (some (.int rE)) hE := by
  refine g_entry RX12 (by decide) rfl (Nat.le_of_ble_eq_true rfl) ?_
  intro p e s m args below meth c X hr
  unfold fX12_most at hf
  have hf := zlet_n (x := h) rfl hf
  show zG p l e { frames := 4, cells := 0, slots := 0, locals := 88 } s m args below meth c (MQ below (zQ D cA base h hE (some (.int rE))) args s 0 0 (zA base)) 2 D cA base h 0 [(0, .ref (base + r0))] [] h
  refine g_aload_n X 0 dX12_most_0 rfl ?_
  refine g_iconst X (v := 0) dX12_most_1 (by decide) ?_
  obtain ⟨hk1, hf⟩ := zite hf
  refine g_putI X zf12 hk1 0 (by decide) w_f_RX12_86 rfl rfl rfl dX12_most_2 ?_
  refine g_hp (fun h2 eh2 => ?_)
  have hf := zlet_n eh2 hf
  refine g_aload_n X 0 dX12_most_5 rfl ?_
  refine g_get X zf12 hk1 3 (by decide) w_f_RX12_329 rfl rfl dX12_most_6 ?_
  refine g_ifnonnull X 18 dX12_most_9 (by decide) (fun _ hq => ?_) (fun hq => ?_)
  · have hf := zpos (by rw [hq]; rfl) hf
    refine g_sipush X (v := 200) dX12_most_18 (by decide) ?_
    refine g_istore_n X [(1, .int ((200 : Int32))), (0, .ref (base + r0))] dX12_most_21 (by decide) rfl ?_
    refine g_sub [1, 0] rfl ?_
    obtain ⟨qq, hlp, hf⟩ := zbd hf
    refine lp_snd (body := (fun q : Int32 × Zh => bX12_most_22 h r0 q.1 q.2)) (P := (fun q : Int32 × Zh => zG p l e { frames := 4, cells := 0, slots := 0, locals := 88 } s m args below meth c (MQ below (zQ D cA base h hE (some (.int rE))) args s 0 0 (zA base)) 2 D cA base h 22 [(0, .ref (base + r0)), (1, .int q.1)] [] q.2)) (E := (fun (en : Nat) (q : Int32 × Zh) => if en = 1 then zG p l e { frames := 4, cells := 0, slots := 0, locals := 88 } s m args below meth c (MQ below (zQ D cA base h hE (some (.int rE))) args s 0 0 (zA base)) 2 D cA base h 49 [(0, .ref (base + r0)), (1, .int q.1)] [] q.2 else zG p l e { frames := 4, cells := 0, slots := 0, locals := 88 } s m args below meth c (MQ below (zQ D cA base h hE (some (.int rE))) args s 0 0 (zA base)) 2 D cA base h 61 [(0, .ref (base + r0))] [] q.2)) ?_ zB ((200 : Int32), h2) qq.1 qq.2 hlp ?_
    · intro q e_22 q_22 hf hc0 hc1
      obtain ⟨x1_22, h_22⟩ := q
      have hf : bX12_most_22 h r0 x1_22 h_22 = some (e_22, q_22) := hf
      unfold bX12_most_22 at hf
      show zG p l e { frames := 4, cells := 0, slots := 0, locals := 88 } s m args below meth c (MQ below (zQ D cA base h hE (some (.int rE))) args s 0 0 (zA base)) 2 D cA base h 22 [(0, .ref (base + r0)), (1, .int x1_22)] [] h_22
      refine g_iload_n X 1 dX12_most_22 rfl ?_
      refine g_aload_n X 0 dX12_most_23 rfl ?_
      obtain ⟨r_3, hr_3, hf⟩ := zbd hf
      refine g_get X zf12 hk1 3 (by decide) w_f_RX12_329 rfl (zfv_r hr_3 rfl) dX12_most_24 ?_
      obtain ⟨hk4, hf⟩ := zite hf
      refine g_getN X zf11 hk4 2 (by decide) w_fn_RX12_232 rfl rfl dX12_most_27 ?_
      refine g_icmp_lt X 61 dX12_most_30 (by decide) (fun hq => ?_) (fun hq => ?_)
      · have hf := zpos hq hf
        cases hf
        have hc1 := hc1 (by decide)
        exact g_sub [0] rfl (zun_n (by decide) hc1)
      · have hf := zneg hq hf
        refine g_aload_n X 0 dX12_most_33 rfl ?_
        refine g_iload_n X 1 dX12_most_34 rfl ?_
        refine g_iconst X (v := 0) dX12_most_35 (by decide) ?_
        obtain ⟨v6, h5, hch5, hf⟩ := zc2_e hf
        refine g_callV X 2 (sX12_countOf hch5) zf12 hk1 ydX12_countOf w_ml_RX12_494 w_instanceMethod_X12_countOf w_sel_X12_countOf w_ini_RX12 w_code_X12_countOf (by decide) rfl (st := []) rfl rfl (Nat.le_of_ble_eq_true rfl) dX12_most_36 ?_
        refine g_aload_n X 0 dX12_most_39 rfl ?_
        refine g_iload_n X 1 dX12_most_40 rfl ?_
        refine g_iconst X (v := 1) dX12_most_41 (by decide) ?_
        obtain ⟨v8, h7, hch7, hf⟩ := zc2_e hf
        refine g_callV X 2 (sX12_countOf hch7) zf12 hk1 ydX12_countOf w_ml_RX12_494 w_instanceMethod_X12_countOf w_sel_X12_countOf w_ini_RX12 w_code_X12_countOf (by decide) rfl (st := [.long v6]) rfl rfl (Nat.le_of_ble_eq_true rfl) dX12_most_42 ?_
        refine g_lcmp X dX12_most_45 ?_
        refine g_if_gt X 55 dX12_most_46 (by decide) (fun hq => ?_) (fun hq => ?_)
        · have hf := zpos hq hf
          obtain ⟨y9, ey9⟩ : ∃ y : Int32, y = x1_22 + (-1 : Int32) := ⟨_, rfl⟩
          have hf := zlet_n ey9 hf
          refine g_iinc X (j := 1) [(1, .int y9), (0, .ref (base + r0))] dX12_most_55 rfl (by rw [ey9]; rfl) (by decide) rfl ?_
          refine g_goto X 22 dX12_most_58 (by decide) ?_
          cases hf
          exact g_sub [1, 0] rfl (hc0 rfl)
        · have hf := zneg hq hf
          cases hf
          have hc1 := hc1 (by decide)
          exact g_sub [0, 1] rfl (zun_p rfl hc1)
    · obtain ⟨ee, x1_k22, h_k22⟩ := qq
      have hf : kX12_most_22 h r0 ee x1_k22 h_k22 = some (rE, hE) := hf
      unfold kX12_most_22 at hf
      by_cases hee0 : ee = 1
      · have hf := zpos hee0 hf
        refine zifp hee0 ?_
        show zG p l e { frames := 4, cells := 0, slots := 0, locals := 88 } s m args below meth c (MQ below (zQ D cA base h hE (some (.int rE))) args s 0 0 (zA base)) 2 D cA base h 49 [(0, .ref (base + r0)), (1, .int x1_k22)] [] h_k22
        refine g_aload_n X 0 dX12_most_49 rfl ?_
        refine g_iload_n X 1 dX12_most_50 rfl ?_
        obtain ⟨v11, h10, hch10, hf⟩ := zc2_e hf
        refine g_callV X 1 (sX12_good hch10) zf12 hk1 ydX12_good w_ml_RX12_96 w_instanceMethod_X12_good w_sel_X12_good w_ini_RX12 w_code_X12_good (by decide) rfl (st := []) rfl rfl (Nat.le_of_ble_eq_true rfl) dX12_most_51 ?_
        obtain ⟨rfl, rfl⟩ := zsm hf
        exact g_iret X hr dX12_most_54
      have hf := zneg hee0 hf
      refine zifn hee0 ?_
      show zG p l e { frames := 4, cells := 0, slots := 0, locals := 88 } s m args below meth c (MQ below (zQ D cA base h hE (some (.int rE))) args s 0 0 (zA base)) 2 D cA base h 61 [(0, .ref (base + r0))] [] h_k22
      refine g_aload_n X 0 dX12_most_61 rfl ?_
      refine g_bipush X (v := -2) dX12_most_62 (by decide) ?_
      obtain ⟨v13, h12, hch12, hf⟩ := zc2_e hf
      refine g_callV X 1 (sX12_good hch12) zf12 hk1 ydX12_good w_ml_RX12_96 w_instanceMethod_X12_good w_sel_X12_good w_ini_RX12 w_code_X12_good (by decide) rfl (st := []) rfl rfl (Nat.le_of_ble_eq_true rfl) dX12_most_64 ?_
      obtain ⟨rfl, rfl⟩ := zsm hf
      exact g_iret X hr dX12_most_67
  · have hf := zneg (by rw [hq]; decide) hf
    refine g_aload_n X 0 dX12_most_12 rfl ?_
    refine g_iconst X (v := 1) dX12_most_13 (by decide) ?_
    obtain ⟨v15, h14, hch14, hf⟩ := zc2_e hf
    refine g_callV X 1 (sX12_refused hch14) zf12 hk1 ydX12_refused w_ml_RX12_92 w_instanceMethod_X12_refused w_sel_X12_refused w_ini_RX12 w_code_X12_refused (by decide) rfl (st := []) rfl rfl (Nat.le_of_ble_eq_true rfl) dX12_most_14 ?_
    obtain ⟨rfl, rfl⟩ := zsm hf
    exact g_iret X hr dX12_most_17

set_option maxHeartbeats 4000000 in
set_option maxRecDepth 100000 in
theorem sX12_isEvening {l : Launch} {D : va_G} {cA : Nat → ClassId} {base : Nat} {sA : Nat → Nat} {r0 : Nat} {x1 : Int32} {h hE : Zh} {rE : Int32} (hf : fX12_isEvening r0 x1 h = some (rE, hE)) : zC l yX12_isEvening cX12_isEvening 2 (some .boolean) 0 0 D cA base sA [.ref (base + r0), .int x1] h (some (.int rE)) hE := by
  refine g_entry RX12 (by decide) rfl (Nat.le_of_ble_eq_true rfl) ?_
  intro p e s m args below meth c X hr
  unfold fX12_isEvening at hf
  have hf := zlet_n (x := h) rfl hf
  show zG p l e { frames := 0, cells := 0, slots := 0, locals := 0 } s m args below meth c (MQ below (zQ D cA base h hE (some (.int rE))) args s 0 0 (zA base)) 2 D cA base h 0 [(0, .ref (base + r0)), (1, .int x1)] [] h
  refine g_aload_n X 0 dX12_isEvening_0 rfl ?_
  obtain ⟨hk1, hf⟩ := zite hf
  refine g_get X zf12 hk1 3 (by decide) w_f_RX12_329 rfl rfl dX12_isEvening_1 ?_
  refine g_ifnull X 23 dX12_isEvening_4 (by decide) (fun hq => ?_) (fun _ hq => ?_)
  · have hf := zneg (by rw [hq]; decide) hf
    refine g_iconst X (v := 0) dX12_isEvening_23 (by decide) ?_
    obtain ⟨rfl, rfl⟩ := zsm hf
    exact g_zret X (Or.inl rfl) hr dX12_isEvening_24
  · have hf := zpos (by rw [hq]; rfl) hf
    refine g_iload_n X 1 dX12_isEvening_7 rfl ?_
    refine g_if_lt X 23 dX12_isEvening_8 (by decide) (fun hq => ?_) (fun hq => ?_)
    · have hf := zpos hq hf
      refine g_iconst X (v := 0) dX12_isEvening_23 (by decide) ?_
      obtain ⟨rfl, rfl⟩ := zsm hf
      exact g_zret X (Or.inl rfl) hr dX12_isEvening_24
    · have hf := zneg hq hf
      refine g_iload_n X 1 dX12_isEvening_11 rfl ?_
      refine g_aload_n X 0 dX12_isEvening_12 rfl ?_
      refine g_get X zf12 hk1 43 (by decide) w_f_RX12_346 rfl rfl dX12_isEvening_13 ?_
      refine g_icmp_ge X 23 dX12_isEvening_16 (by decide) (fun hq => ?_) (fun hq => ?_)
      · have hf := zpos hq hf
        refine g_iconst X (v := 0) dX12_isEvening_23 (by decide) ?_
        obtain ⟨rfl, rfl⟩ := zsm hf
        exact g_zret X (Or.inl rfl) hr dX12_isEvening_24
      · have hf := zneg hq hf
        refine g_iconst X (v := 1) dX12_isEvening_19 (by decide) ?_
        refine g_goto X 24 dX12_isEvening_20 (by decide) ?_
        obtain ⟨rfl, rfl⟩ := zsm hf
        exact g_zret X (Or.inr rfl) hr dX12_isEvening_24

set_option maxHeartbeats 4000000 in
set_option maxRecDepth 100000 in
theorem sX12_judge {l : Launch} {D : va_G} {cA : Nat → ClassId} {base : Nat} {sA : Nat → Nat} {r0 : Nat} {x1 : Int32} {h hE : Zh} {rE : Int32} (hf : fX12_judge r0 x1 h = some (rE, hE)) : zC l yX12_judge cX12_judge 2 (some .int) 3 72 D cA base sA [.ref (base + r0), .int x1] h (some (.int rE)) hE := by
  refine g_entry RX12 (by decide) rfl (Nat.le_of_ble_eq_true rfl) ?_
  intro p e s m args below meth c X hr
  unfold fX12_judge at hf
  have hf := zlet_n (x := h) rfl hf
  show zG p l e { frames := 3, cells := 0, slots := 0, locals := 72 } s m args below meth c (MQ below (zQ D cA base h hE (some (.int rE))) args s 0 0 (zA base)) 2 D cA base h 0 [(0, .ref (base + r0)), (1, .int x1)] [] h
  refine g_aload_n X 0 dX12_judge_0 rfl ?_
  refine g_iconst X (v := 0) dX12_judge_1 (by decide) ?_
  obtain ⟨hk1, hf⟩ := zite hf
  refine g_putI X zf12 hk1 0 (by decide) w_f_RX12_86 rfl rfl rfl dX12_judge_2 ?_
  refine g_hp (fun h2 eh2 => ?_)
  have hf := zlet_n eh2 hf
  refine g_aload_n X 0 dX12_judge_5 rfl ?_
  refine g_iload_n X 1 dX12_judge_6 rfl ?_
  obtain ⟨v4, h3, hch3, hf⟩ := zc2_e hf
  refine g_callV X 1 (sX12_isEvening hch3) zf12 hk1 ydX12_isEvening w_ml_RX12_498 w_instanceMethod_X12_isEvening w_sel_X12_isEvening w_ini_RX12 w_code_X12_isEvening (by decide) rfl (st := []) rfl rfl (Nat.le_of_ble_eq_true rfl) dX12_judge_7 ?_
  refine g_if_eq X 44 dX12_judge_10 (by decide) (fun hq => ?_) (fun hq => ?_)
  · have hf := zpos hq hf
    refine g_aload_n X 0 dX12_judge_44 rfl ?_
    refine g_iconst X (v := 1) dX12_judge_45 (by decide) ?_
    obtain ⟨v6, h5, hch5, hf⟩ := zc2_e hf
    refine g_callV X 1 (sX12_refused hch5) zf12 hk1 ydX12_refused w_ml_RX12_92 w_instanceMethod_X12_refused w_sel_X12_refused w_ini_RX12 w_code_X12_refused (by decide) rfl (st := []) rfl rfl (Nat.le_of_ble_eq_true rfl) dX12_judge_46 ?_
    obtain ⟨rfl, rfl⟩ := zsm hf
    exact g_iret X hr dX12_judge_49
  · have hf := zneg hq hf
    refine g_aload_n X 0 dX12_judge_13 rfl ?_
    refine g_aload_n X 0 dX12_judge_14 rfl ?_
    refine g_aload_n X 0 dX12_judge_15 rfl ?_
    obtain ⟨r_7, hr_7, hf⟩ := zbd hf
    refine g_get X zf12 hk1 37 (by decide) w_f_RX12_68 rfl (zfv_r hr_7 rfl) dX12_judge_16 ?_
    refine g_iload_n X 1 dX12_judge_19 rfl ?_
    obtain ⟨hk8, hf⟩ := zite hf
    obtain ⟨hi9, hf⟩ := zite hf
    refine g_iald X hk8 hi9 dX12_judge_20 ?_
    refine g_aload_n X 0 dX12_judge_21 rfl ?_
    obtain ⟨r_10, hr_10, hf⟩ := zbd hf
    refine g_get X zf12 hk1 38 (by decide) w_f_RX12_71 rfl (zfv_r hr_10 rfl) dX12_judge_22 ?_
    refine g_iload_n X 1 dX12_judge_25 rfl ?_
    obtain ⟨hk11, hf⟩ := zite hf
    obtain ⟨hi12, hf⟩ := zite hf
    refine g_iald X hk11 hi12 dX12_judge_26 ?_
    obtain ⟨v14, h13, hch13, hf⟩ := zc2_e hf
    refine g_callV X 2 (sX12_rowFits hch13) zf12 hk1 ydX12_rowFits w_ml_RX12_385 w_instanceMethod_X12_rowFits w_sel_X12_rowFits w_ini_RX12 w_code_X12_rowFits (by decide) rfl (st := [.ref (base + r0)]) rfl rfl (Nat.le_of_ble_eq_true rfl) dX12_judge_27 ?_
    refine g_if_eq X 37 dX12_judge_30 (by decide) (fun hq => ?_) (fun hq => ?_)
    · have hf := zpos hq hf
      refine g_iconst X (v := 0) dX12_judge_37 (by decide) ?_
      obtain ⟨v16, h15, hch15, hf⟩ := zc2_e hf
      refine g_callV X 1 (sX12_good hch15) zf12 hk1 ydX12_good w_ml_RX12_96 w_instanceMethod_X12_good w_sel_X12_good w_ini_RX12 w_code_X12_good (by decide) rfl (st := []) rfl rfl (Nat.le_of_ble_eq_true rfl) dX12_judge_38 ?_
      refine g_goto X 49 dX12_judge_41 (by decide) ?_
      obtain ⟨rfl, rfl⟩ := zsm hf
      exact g_iret X hr dX12_judge_49
    · have hf := zneg hq hf
      refine g_iconst X (v := 1) dX12_judge_33 (by decide) ?_
      refine g_goto X 38 dX12_judge_34 (by decide) ?_
      obtain ⟨v18, h17, hch17, hf⟩ := zc2_e hf
      refine g_callV X 1 (sX12_good hch17) zf12 hk1 ydX12_good w_ml_RX12_96 w_instanceMethod_X12_good w_sel_X12_good w_ini_RX12 w_code_X12_good (by decide) rfl (st := []) rfl rfl (Nat.le_of_ble_eq_true rfl) dX12_judge_38 ?_
      refine g_goto X 49 dX12_judge_41 (by decide) ?_
      obtain ⟨rfl, rfl⟩ := zsm hf
      exact g_iret X hr dX12_judge_49

set_option maxHeartbeats 4000000 in
set_option maxRecDepth 100000 in
theorem sX12_evening {l : Launch} {D : va_G} {cA : Nat → ClassId} {base : Nat} {sA : Nat → Nat} {r0 : Nat} {x1 : Int32} {x2 : Int32} {h hE : Zh} {rE : Int32} (hf : fX12_evening r0 x1 x2 h = some (rE, hE)) : zC l yX12_evening cX12_evening 3 (some .int) 1 21 D cA base sA [.ref (base + r0), .int x1, .int x2] h (some (.int rE)) hE := by
  refine g_entry RX12 (by decide) rfl (Nat.le_of_ble_eq_true rfl) ?_
  intro p e s m args below meth c X hr
  unfold fX12_evening at hf
  have hf := zlet_n (x := h) rfl hf
  show zG p l e { frames := 1, cells := 0, slots := 0, locals := 21 } s m args below meth c (MQ below (zQ D cA base h hE (some (.int rE))) args s 0 0 (zA base)) 3 D cA base h 0 [(0, .ref (base + r0)), (1, .int x1), (2, .int x2)] [] h
  refine g_aload_n X 0 dX12_evening_0 rfl ?_
  refine g_iconst X (v := 0) dX12_evening_1 (by decide) ?_
  obtain ⟨hk1, hf⟩ := zite hf
  refine g_putI X zf12 hk1 0 (by decide) w_f_RX12_86 rfl rfl rfl dX12_evening_2 ?_
  refine g_hp (fun h2 eh2 => ?_)
  have hf := zlet_n eh2 hf
  refine g_aload_n X 0 dX12_evening_5 rfl ?_
  refine g_iload_n X 1 dX12_evening_6 rfl ?_
  obtain ⟨v4, h3, hch3, hf⟩ := zc2_e hf
  refine g_callV X 1 (sX12_isEvening hch3) zf12 hk1 ydX12_isEvening w_ml_RX12_498 w_instanceMethod_X12_isEvening w_sel_X12_isEvening w_ini_RX12 w_code_X12_isEvening (by decide) rfl (st := []) rfl rfl (Nat.le_of_ble_eq_true rfl) dX12_evening_7 ?_
  refine g_if_eq X 39 dX12_evening_10 (by decide) (fun hq => ?_) (fun hq => ?_)
  · have hf := zpos hq hf
    refine g_aload_n X 0 dX12_evening_39 rfl ?_
    refine g_iconst X (v := 1) dX12_evening_40 (by decide) ?_
    obtain ⟨v6, h5, hch5, hf⟩ := zc2_e hf
    refine g_callV X 1 (sX12_refused hch5) zf12 hk1 ydX12_refused w_ml_RX12_92 w_instanceMethod_X12_refused w_sel_X12_refused w_ini_RX12 w_code_X12_refused (by decide) rfl (st := []) rfl rfl (Nat.le_of_ble_eq_true rfl) dX12_evening_41 ?_
    obtain ⟨rfl, rfl⟩ := zsm hf
    exact g_iret X hr dX12_evening_44
  · have hf := zneg hq hf
    refine g_aload_n X 0 dX12_evening_13 rfl ?_
    refine g_iload_n X 2 dX12_evening_14 rfl ?_
    refine g_if_eq X 27 dX12_evening_15 (by decide) (fun hq => ?_) (fun hq => ?_)
    · have hf := zpos hq hf
      refine g_aload_n X 0 dX12_evening_27 rfl ?_
      obtain ⟨r_7, hr_7, hf⟩ := zbd hf
      refine g_get X zf12 hk1 37 (by decide) w_f_RX12_68 rfl (zfv_r hr_7 rfl) dX12_evening_28 ?_
      refine g_iload_n X 1 dX12_evening_31 rfl ?_
      obtain ⟨hk8, hf⟩ := zite hf
      obtain ⟨hi9, hf⟩ := zite hf
      refine g_iald X hk8 hi9 dX12_evening_32 ?_
      obtain ⟨v11, h10, hch10, hf⟩ := zc2_e hf
      refine g_callV X 1 (sX12_good hch10) zf12 hk1 ydX12_good w_ml_RX12_96 w_instanceMethod_X12_good w_sel_X12_good w_ini_RX12 w_code_X12_good (by decide) rfl (st := []) rfl rfl (Nat.le_of_ble_eq_true rfl) dX12_evening_33 ?_
      refine g_goto X 44 dX12_evening_36 (by decide) ?_
      obtain ⟨rfl, rfl⟩ := zsm hf
      exact g_iret X hr dX12_evening_44
    · have hf := zneg hq hf
      refine g_aload_n X 0 dX12_evening_18 rfl ?_
      obtain ⟨r_12, hr_12, hf⟩ := zbd hf
      refine g_get X zf12 hk1 38 (by decide) w_f_RX12_71 rfl (zfv_r hr_12 rfl) dX12_evening_19 ?_
      refine g_iload_n X 1 dX12_evening_22 rfl ?_
      obtain ⟨hk13, hf⟩ := zite hf
      obtain ⟨hi14, hf⟩ := zite hf
      refine g_iald X hk13 hi14 dX12_evening_23 ?_
      refine g_goto X 33 dX12_evening_24 (by decide) ?_
      obtain ⟨v16, h15, hch15, hf⟩ := zc2_e hf
      refine g_callV X 1 (sX12_good hch15) zf12 hk1 ydX12_good w_ml_RX12_96 w_instanceMethod_X12_good w_sel_X12_good w_ini_RX12 w_code_X12_good (by decide) rfl (st := []) rfl rfl (Nat.le_of_ble_eq_true rfl) dX12_evening_33 ?_
      refine g_goto X 44 dX12_evening_36 (by decide) ?_
      obtain ⟨rfl, rfl⟩ := zsm hf
      exact g_iret X hr dX12_evening_44

set_option maxHeartbeats 4000000 in
set_option maxRecDepth 100000 in
theorem sX12_agreesWith {l : Launch} {D : va_G} {cA : Nat → ClassId} {base : Nat} {sA : Nat → Nat} {r0 : Nat} {x1 : Int32} {x2 : Int32} {h hE : Zh} {rE : Int32} (hf : fX12_agreesWith r0 x1 x2 h = some (rE, hE)) : zC l yX12_agreesWith cX12_agreesWith 3 (some .boolean) 7 169 D cA base sA [.ref (base + r0), .int x1, .int x2] h (some (.int rE)) hE := by
  refine g_entry RX12 (by decide) rfl (Nat.le_of_ble_eq_true rfl) ?_
  intro p e s m args below meth c X hr
  unfold fX12_agreesWith at hf
  have hf := zlet_n (x := h) rfl hf
  show zG p l e { frames := 7, cells := 0, slots := 0, locals := 169 } s m args below meth c (MQ below (zQ D cA base h hE (some (.int rE))) args s 0 0 (zA base)) 3 D cA base h 0 [(0, .ref (base + r0)), (1, .int x1), (2, .int x2)] [] h
  refine g_aload_n X 0 dX12_agreesWith_0 rfl ?_
  refine g_iload_n X 1 dX12_agreesWith_1 rfl ?_
  refine g_aload_n X 0 dX12_agreesWith_2 rfl ?_
  obtain ⟨hk1, hf⟩ := zite hf
  obtain ⟨r_2, hr_2, hf⟩ := zbd hf
  refine g_get X zf12 hk1 37 (by decide) w_f_RX12_68 rfl (zfv_r hr_2 rfl) dX12_agreesWith_3 ?_
  refine g_iload_n X 2 dX12_agreesWith_6 rfl ?_
  obtain ⟨hk3, hf⟩ := zite hf
  obtain ⟨hi4, hf⟩ := zite hf
  refine g_iald X hk3 hi4 dX12_agreesWith_7 ?_
  obtain ⟨v6, h5, hch5, hf⟩ := zc2_e hf
  refine g_callV X 2 (sX12_laysNow hch5) zf12 hk1 ydX12_laysNow w_ml_RX12_433 w_instanceMethod_X12_laysNow w_sel_X12_laysNow w_ini_RX12 w_code_X12_laysNow (by decide) rfl (st := []) rfl rfl (Nat.le_of_ble_eq_true rfl) dX12_agreesWith_8 ?_
  refine g_aload_n X 0 dX12_agreesWith_11 rfl ?_
  obtain ⟨r_7, hr_7, hf⟩ := zbd hf
  refine g_get X zf12 hk1 38 (by decide) w_f_RX12_71 rfl (zfv_r hr_7 rfl) dX12_agreesWith_12 ?_
  refine g_iload_n X 2 dX12_agreesWith_15 rfl ?_
  obtain ⟨hk8, hf⟩ := zite hf
  obtain ⟨hi9, hf⟩ := zite hf
  refine g_iald X hk8 hi9 dX12_agreesWith_16 ?_
  refine g_icmp_ne X 24 dX12_agreesWith_17 (by decide) (fun hq => ?_) (fun hq => ?_)
  · have hf := zneg hq hf
    refine g_iconst X (v := 0) dX12_agreesWith_24 (by decide) ?_
    obtain ⟨rfl, rfl⟩ := zsm hf
    exact g_zret X (Or.inl rfl) hr dX12_agreesWith_25
  · have hf := zpos hq hf
    refine g_iconst X (v := 1) dX12_agreesWith_20 (by decide) ?_
    refine g_goto X 25 dX12_agreesWith_21 (by decide) ?_
    obtain ⟨rfl, rfl⟩ := zsm hf
    exact g_zret X (Or.inr rfl) hr dX12_agreesWith_25

set_option maxHeartbeats 4000000 in
set_option maxRecDepth 100000 in
theorem sX12_agrees {l : Launch} {D : va_G} {cA : Nat → ClassId} {base : Nat} {sA : Nat → Nat} {r0 : Nat} {x1 : Int32} {h hE : Zh} {rE : Int32} (hf : fX12_agrees r0 x1 h = some (rE, hE)) : zC l yX12_agrees cX12_agrees 4 (some .int) 8 191 D cA base sA [.ref (base + r0), .int x1] h (some (.int rE)) hE := by
  refine g_entry RX12 (by decide) rfl (Nat.le_of_ble_eq_true rfl) ?_
  intro p e s m args below meth c X hr
  unfold fX12_agrees at hf
  have hf := zlet_n (x := h) rfl hf
  show zG p l e { frames := 8, cells := 0, slots := 0, locals := 191 } s m args below meth c (MQ below (zQ D cA base h hE (some (.int rE))) args s 0 0 (zA base)) 4 D cA base h 0 [(0, .ref (base + r0)), (1, .int x1)] [] h
  refine g_aload_n X 0 dX12_agrees_0 rfl ?_
  refine g_iconst X (v := 0) dX12_agrees_1 (by decide) ?_
  obtain ⟨hk1, hf⟩ := zite hf
  refine g_putI X zf12 hk1 0 (by decide) w_f_RX12_86 rfl rfl rfl dX12_agrees_2 ?_
  refine g_hp (fun h2 eh2 => ?_)
  have hf := zlet_n eh2 hf
  refine g_aload_n X 0 dX12_agrees_5 rfl ?_
  refine g_iload_n X 1 dX12_agrees_6 rfl ?_
  obtain ⟨v4, h3, hch3, hf⟩ := zc2_e hf
  refine g_callV X 1 (sX12_isRule hch3) zf12 hk1 ydX12_isRule w_ml_RX12_430 w_instanceMethod_X12_isRule w_sel_X12_isRule w_ini_RX12 w_code_X12_isRule (by decide) rfl (st := []) rfl rfl (Nat.le_of_ble_eq_true rfl) dX12_agrees_7 ?_
  refine g_if_ne X 19 dX12_agrees_10 (by decide) (fun hq => ?_) (fun hq => ?_)
  · have hf := zneg hq hf
    refine g_iconst X (v := 0) dX12_agrees_19 (by decide) ?_
    refine g_istore_n X [(2, .int ((0 : Int32))), (0, .ref (base + r0)), (1, .int x1)] dX12_agrees_20 (by decide) rfl ?_
    refine g_iconst X (v := 0) dX12_agrees_21 (by decide) ?_
    refine g_istore_n X [(3, .int ((0 : Int32))), (2, .int ((0 : Int32))), (0, .ref (base + r0)), (1, .int x1)] dX12_agrees_22 (by decide) rfl ?_
    refine g_sub [2, 3, 1, 0] rfl ?_
    obtain ⟨qq, hlp, hf⟩ := zbd hf
    refine lp_snd (body := (fun q : Int32 × Int32 × Zh => bX12_agrees_23 h r0 x1 q.1 q.2.1 q.2.2)) (P := (fun q : Int32 × Int32 × Zh => zG p l e { frames := 8, cells := 0, slots := 0, locals := 191 } s m args below meth c (MQ below (zQ D cA base h hE (some (.int rE))) args s 0 0 (zA base)) 4 D cA base h 23 [(0, .ref (base + r0)), (1, .int x1), (2, .int q.1), (3, .int q.2.1)] [] q.2.2)) (E := (fun (en : Nat) (q : Int32 × Int32 × Zh) => zG p l e { frames := 8, cells := 0, slots := 0, locals := 191 } s m args below meth c (MQ below (zQ D cA base h hE (some (.int rE))) args s 0 0 (zA base)) 4 D cA base h 54 [(0, .ref (base + r0)), (2, .int q.1)] [] q.2.2)) ?_ zB ((0 : Int32), ((0 : Int32), h3)) qq.1 qq.2 hlp ?_
    · intro q e_23 q_23 hf hc0 hc1
      obtain ⟨x2_23, x3_23, h_23⟩ := q
      have hf : bX12_agrees_23 h r0 x1 x2_23 x3_23 h_23 = some (e_23, q_23) := hf
      unfold bX12_agrees_23 at hf
      show zG p l e { frames := 8, cells := 0, slots := 0, locals := 191 } s m args below meth c (MQ below (zQ D cA base h hE (some (.int rE))) args s 0 0 (zA base)) 4 D cA base h 23 [(0, .ref (base + r0)), (1, .int x1), (2, .int x2_23), (3, .int x3_23)] [] h_23
      refine g_iload_n X 3 dX12_agrees_23 rfl ?_
      refine g_aload_n X 0 dX12_agrees_24 rfl ?_
      refine g_get X zf12 hk1 43 (by decide) w_f_RX12_346 rfl rfl dX12_agrees_25 ?_
      refine g_icmp_ge X 54 dX12_agrees_28 (by decide) (fun hq => ?_) (fun hq => ?_)
      · have hf := zpos hq hf
        cases hf
        have hc1 := hc1 (by decide)
        exact g_sub [0, 2] rfl hc1
      · have hf := zneg hq hf
        refine g_iload_n X 2 dX12_agrees_31 rfl ?_
        refine g_aload_n X 0 dX12_agrees_32 rfl ?_
        refine g_iload_n X 1 dX12_agrees_33 rfl ?_
        refine g_iload_n X 3 dX12_agrees_34 rfl ?_
        obtain ⟨v6, h5, hch5, hf⟩ := zc2_e hf
        refine g_callV X 2 (sX12_agreesWith hch5) zf12 hk1 ydX12_agreesWith w_ml_RX12_501 w_instanceMethod_X12_agreesWith w_sel_X12_agreesWith w_ini_RX12 w_code_X12_agreesWith (by decide) rfl (st := [.int x2_23]) rfl rfl (Nat.le_of_ble_eq_true rfl) dX12_agrees_35 ?_
        refine g_if_eq X 45 dX12_agrees_38 (by decide) (fun hq => ?_) (fun hq => ?_)
        · have hf := zpos hq hf
          refine g_iconst X (v := 0) dX12_agrees_45 (by decide) ?_
          refine g_iadd X dX12_agrees_46 ?_
          refine g_topi (fun y7 ey7 => ?_)
          have hf := zlet_n ey7 hf
          refine g_istore_n X [(2, .int y7), (0, .ref (base + r0)), (1, .int x1), (3, .int x3_23)] dX12_agrees_47 (by decide) rfl ?_
          obtain ⟨y8, ey8⟩ : ∃ y : Int32, y = x3_23 + (1 : Int32) := ⟨_, rfl⟩
          have hf := zlet_n ey8 hf
          refine g_iinc X (j := 3) [(3, .int y8), (2, .int y7), (0, .ref (base + r0)), (1, .int x1)] dX12_agrees_48 rfl (by rw [ey8]; rfl) (by decide) rfl ?_
          refine g_goto X 23 dX12_agrees_51 (by decide) ?_
          cases hf
          exact g_sub [2, 3, 1, 0] rfl (hc0 rfl)
        · have hf := zneg hq hf
          refine g_iconst X (v := 1) dX12_agrees_41 (by decide) ?_
          refine g_goto X 46 dX12_agrees_42 (by decide) ?_
          refine g_iadd X dX12_agrees_46 ?_
          refine g_topi (fun y9 ey9 => ?_)
          have hf := zlet_n ey9 hf
          refine g_istore_n X [(2, .int y9), (0, .ref (base + r0)), (1, .int x1), (3, .int x3_23)] dX12_agrees_47 (by decide) rfl ?_
          obtain ⟨y10, ey10⟩ : ∃ y : Int32, y = x3_23 + (1 : Int32) := ⟨_, rfl⟩
          have hf := zlet_n ey10 hf
          refine g_iinc X (j := 3) [(3, .int y10), (2, .int y9), (0, .ref (base + r0)), (1, .int x1)] dX12_agrees_48 rfl (by rw [ey10]; rfl) (by decide) rfl ?_
          refine g_goto X 23 dX12_agrees_51 (by decide) ?_
          cases hf
          exact g_sub [2, 3, 1, 0] rfl (hc0 rfl)
    · obtain ⟨ee, x2_k23, x3_k23, h_k23⟩ := qq
      have hf : kX12_agrees_23 h r0 ee x2_k23 x3_k23 h_k23 = some (rE, hE) := hf
      unfold kX12_agrees_23 at hf
      show zG p l e { frames := 8, cells := 0, slots := 0, locals := 191 } s m args below meth c (MQ below (zQ D cA base h hE (some (.int rE))) args s 0 0 (zA base)) 4 D cA base h 54 [(0, .ref (base + r0)), (2, .int x2_k23)] [] h_k23
      refine g_aload_n X 0 dX12_agrees_54 rfl ?_
      refine g_iload_n X 1 dX12_agrees_55 rfl ?_
      obtain ⟨v12, h11, hch11, hf⟩ := zc2_e hf
      refine g_callV X 1 (sX12_good hch11) zf12 hk1 ydX12_good w_ml_RX12_96 w_instanceMethod_X12_good w_sel_X12_good w_ini_RX12 w_code_X12_good (by decide) rfl (st := []) rfl rfl (Nat.le_of_ble_eq_true rfl) dX12_agrees_56 ?_
      obtain ⟨rfl, rfl⟩ := zsm hf
      exact g_iret X hr dX12_agrees_59
  · have hf := zpos hq hf
    refine g_aload_n X 0 dX12_agrees_13 rfl ?_
    refine g_iconst X (v := 1) dX12_agrees_14 (by decide) ?_
    obtain ⟨v14, h13, hch13, hf⟩ := zc2_e hf
    refine g_callV X 1 (sX12_refused hch13) zf12 hk1 ydX12_refused w_ml_RX12_92 w_instanceMethod_X12_refused w_sel_X12_refused w_ini_RX12 w_code_X12_refused (by decide) rfl (st := []) rfl rfl (Nat.le_of_ble_eq_true rfl) dX12_agrees_15 ?_
    obtain ⟨rfl, rfl⟩ := zsm hf
    exact g_iret X hr dX12_agrees_18

set_option maxHeartbeats 4000000 in
set_option maxRecDepth 100000 in
theorem sX12_firstWrong {l : Launch} {D : va_G} {cA : Nat → ClassId} {base : Nat} {sA : Nat → Nat} {r0 : Nat} {x1 : Int32} {h hE : Zh} {rE : Int32} (hf : fX12_firstWrong r0 x1 h = some (rE, hE)) : zC l yX12_firstWrong cX12_firstWrong 3 (some .int) 8 191 D cA base sA [.ref (base + r0), .int x1] h (some (.int rE)) hE := by
  refine g_entry RX12 (by decide) rfl (Nat.le_of_ble_eq_true rfl) ?_
  intro p e s m args below meth c X hr
  unfold fX12_firstWrong at hf
  have hf := zlet_n (x := h) rfl hf
  show zG p l e { frames := 8, cells := 0, slots := 0, locals := 191 } s m args below meth c (MQ below (zQ D cA base h hE (some (.int rE))) args s 0 0 (zA base)) 3 D cA base h 0 [(0, .ref (base + r0)), (1, .int x1)] [] h
  refine g_iconst X (v := 0) dX12_firstWrong_0 (by decide) ?_
  refine g_istore_n X [(2, .int ((0 : Int32))), (0, .ref (base + r0)), (1, .int x1)] dX12_firstWrong_1 (by decide) rfl ?_
  refine g_sub [1, 2, 0] rfl ?_
  obtain ⟨qq, hlp, hf⟩ := zbd hf
  refine lp_snd (body := (fun q : Int32 × Zh => bX12_firstWrong_2 h r0 x1 q.1 q.2)) (P := (fun q : Int32 × Zh => zG p l e { frames := 8, cells := 0, slots := 0, locals := 191 } s m args below meth c (MQ below (zQ D cA base h hE (some (.int rE))) args s 0 0 (zA base)) 3 D cA base h 2 [(0, .ref (base + r0)), (1, .int x1), (2, .int q.1)] [] q.2)) (E := (fun (en : Nat) (q : Int32 × Zh) => if en = 1 then zG p l e { frames := 8, cells := 0, slots := 0, locals := 191 } s m args below meth c (MQ below (zQ D cA base h hE (some (.int rE))) args s 0 0 (zA base)) 3 D cA base h 19 [(2, .int q.1)] [] q.2 else zG p l e { frames := 8, cells := 0, slots := 0, locals := 191 } s m args below meth c (MQ below (zQ D cA base h hE (some (.int rE))) args s 0 0 (zA base)) 3 D cA base h 27 [] [] q.2)) ?_ zB ((0 : Int32), h) qq.1 qq.2 hlp ?_
  · intro q e_2 q_2 hf hc0 hc1
    obtain ⟨x2_2, h_2⟩ := q
    have hf : bX12_firstWrong_2 h r0 x1 x2_2 h_2 = some (e_2, q_2) := hf
    unfold bX12_firstWrong_2 at hf
    show zG p l e { frames := 8, cells := 0, slots := 0, locals := 191 } s m args below meth c (MQ below (zQ D cA base h hE (some (.int rE))) args s 0 0 (zA base)) 3 D cA base h 2 [(0, .ref (base + r0)), (1, .int x1), (2, .int x2_2)] [] h_2
    refine g_iload_n X 2 dX12_firstWrong_2 rfl ?_
    refine g_aload_n X 0 dX12_firstWrong_3 rfl ?_
    obtain ⟨hk1, hf⟩ := zite hf
    refine g_get X zf12 hk1 43 (by decide) w_f_RX12_346 rfl rfl dX12_firstWrong_4 ?_
    refine g_icmp_ge X 27 dX12_firstWrong_7 (by decide) (fun hq => ?_) (fun hq => ?_)
    · have hf := zpos hq hf
      cases hf
      have hc1 := hc1 (by decide)
      exact g_sub [] rfl (zun_n (by decide) hc1)
    · have hf := zneg hq hf
      refine g_aload_n X 0 dX12_firstWrong_10 rfl ?_
      refine g_iload_n X 1 dX12_firstWrong_11 rfl ?_
      refine g_iload_n X 2 dX12_firstWrong_12 rfl ?_
      obtain ⟨v3, h2, hch2, hf⟩ := zc2_e hf
      refine g_callV X 2 (sX12_agreesWith hch2) zf12 hk1 ydX12_agreesWith w_ml_RX12_501 w_instanceMethod_X12_agreesWith w_sel_X12_agreesWith w_ini_RX12 w_code_X12_agreesWith (by decide) rfl (st := []) rfl rfl (Nat.le_of_ble_eq_true rfl) dX12_firstWrong_13 ?_
      refine g_if_ne X 21 dX12_firstWrong_16 (by decide) (fun hq => ?_) (fun hq => ?_)
      · have hf := zneg hq hf
        obtain ⟨y4, ey4⟩ : ∃ y : Int32, y = x2_2 + (1 : Int32) := ⟨_, rfl⟩
        have hf := zlet_n ey4 hf
        refine g_iinc X (j := 2) [(2, .int y4), (0, .ref (base + r0)), (1, .int x1)] dX12_firstWrong_21 rfl (by rw [ey4]; rfl) (by decide) rfl ?_
        refine g_goto X 2 dX12_firstWrong_24 (by decide) ?_
        cases hf
        exact g_sub [1, 2, 0] rfl (hc0 rfl)
      · have hf := zpos hq hf
        cases hf
        have hc1 := hc1 (by decide)
        exact g_sub [2] rfl (zun_p rfl hc1)
  · obtain ⟨ee, x2_k2, h_k2⟩ := qq
    have hf : kX12_firstWrong_2 h ee x2_k2 h_k2 = some (rE, hE) := hf
    unfold kX12_firstWrong_2 at hf
    by_cases hee0 : ee = 1
    · have hf := zpos hee0 hf
      refine zifp hee0 ?_
      show zG p l e { frames := 8, cells := 0, slots := 0, locals := 191 } s m args below meth c (MQ below (zQ D cA base h hE (some (.int rE))) args s 0 0 (zA base)) 3 D cA base h 19 [(2, .int x2_k2)] [] h_k2
      refine g_iload_n X 0 dX12_firstWrong_19 rfl ?_
      obtain ⟨rfl, rfl⟩ := zsm hf
      exact g_iret X hr dX12_firstWrong_20
    have hf := zneg hee0 hf
    refine zifn hee0 ?_
    show zG p l e { frames := 8, cells := 0, slots := 0, locals := 191 } s m args below meth c (MQ below (zQ D cA base h hE (some (.int rE))) args s 0 0 (zA base)) 3 D cA base h 27 [] [] h_k2
    refine g_bipush X (v := -2) dX12_firstWrong_27 (by decide) ?_
    obtain ⟨rfl, rfl⟩ := zsm hf
    exact g_iret X hr dX12_firstWrong_29

set_option maxHeartbeats 4000000 in
set_option maxRecDepth 100000 in
theorem sX12_wrong {l : Launch} {D : va_G} {cA : Nat → ClassId} {base : Nat} {sA : Nat → Nat} {r0 : Nat} {x1 : Int32} {h hE : Zh} {rE : Int32} (hf : fX12_wrong r0 x1 h = some (rE, hE)) : zC l yX12_wrong cX12_wrong 2 (some .int) 9 213 D cA base sA [.ref (base + r0), .int x1] h (some (.int rE)) hE := by
  refine g_entry RX12 (by decide) rfl (Nat.le_of_ble_eq_true rfl) ?_
  intro p e s m args below meth c X hr
  unfold fX12_wrong at hf
  have hf := zlet_n (x := h) rfl hf
  show zG p l e { frames := 9, cells := 0, slots := 0, locals := 213 } s m args below meth c (MQ below (zQ D cA base h hE (some (.int rE))) args s 0 0 (zA base)) 2 D cA base h 0 [(0, .ref (base + r0)), (1, .int x1)] [] h
  refine g_aload_n X 0 dX12_wrong_0 rfl ?_
  refine g_iconst X (v := 0) dX12_wrong_1 (by decide) ?_
  obtain ⟨hk1, hf⟩ := zite hf
  refine g_putI X zf12 hk1 0 (by decide) w_f_RX12_86 rfl rfl rfl dX12_wrong_2 ?_
  refine g_hp (fun h2 eh2 => ?_)
  have hf := zlet_n eh2 hf
  refine g_aload_n X 0 dX12_wrong_5 rfl ?_
  refine g_iload_n X 1 dX12_wrong_6 rfl ?_
  obtain ⟨v4, h3, hch3, hf⟩ := zc2_e hf
  refine g_callV X 1 (sX12_isRule hch3) zf12 hk1 ydX12_isRule w_ml_RX12_430 w_instanceMethod_X12_isRule w_sel_X12_isRule w_ini_RX12 w_code_X12_isRule (by decide) rfl (st := []) rfl rfl (Nat.le_of_ble_eq_true rfl) dX12_wrong_7 ?_
  refine g_if_eq X 25 dX12_wrong_10 (by decide) (fun hq => ?_) (fun hq => ?_)
  · have hf := zpos hq hf
    refine g_aload_n X 0 dX12_wrong_25 rfl ?_
    refine g_iconst X (v := 1) dX12_wrong_26 (by decide) ?_
    obtain ⟨v6, h5, hch5, hf⟩ := zc2_e hf
    refine g_callV X 1 (sX12_refused hch5) zf12 hk1 ydX12_refused w_ml_RX12_92 w_instanceMethod_X12_refused w_sel_X12_refused w_ini_RX12 w_code_X12_refused (by decide) rfl (st := []) rfl rfl (Nat.le_of_ble_eq_true rfl) dX12_wrong_27 ?_
    obtain ⟨rfl, rfl⟩ := zsm hf
    exact g_iret X hr dX12_wrong_30
  · have hf := zneg hq hf
    refine g_aload_n X 0 dX12_wrong_13 rfl ?_
    refine g_aload_n X 0 dX12_wrong_14 rfl ?_
    refine g_iload_n X 1 dX12_wrong_15 rfl ?_
    obtain ⟨v8, h7, hch7, hf⟩ := zc2_e hf
    refine g_callV X 1 (sX12_firstWrong hch7) zf12 hk1 ydX12_firstWrong w_ml_RX12_504 w_instanceMethod_X12_firstWrong w_sel_X12_firstWrong w_ini_RX12 w_code_X12_firstWrong (by decide) rfl (st := [.ref (base + r0)]) rfl rfl (Nat.le_of_ble_eq_true rfl) dX12_wrong_16 ?_
    obtain ⟨v10, h9, hch9, hf⟩ := zc2_e hf
    refine g_callV X 1 (sX12_good hch9) zf12 hk1 ydX12_good w_ml_RX12_96 w_instanceMethod_X12_good w_sel_X12_good w_ini_RX12 w_code_X12_good (by decide) rfl (st := []) rfl rfl (Nat.le_of_ble_eq_true rfl) dX12_wrong_19 ?_
    refine g_goto X 30 dX12_wrong_22 (by decide) ?_
    obtain ⟨rfl, rfl⟩ := zsm hf
    exact g_iret X hr dX12_wrong_30

set_option maxHeartbeats 4000000 in
set_option maxRecDepth 100000 in
theorem sX12_found {l : Launch} {D : va_G} {cA : Nat → ClassId} {base : Nat} {sA : Nat → Nat} {r0 : Nat} {h hE : Zh} {rE : Int32} (hf : fX12_found r0 h = some (rE, hE)) : zC l yX12_found cX12_found 3 (some .int) 9 213 D cA base sA [.ref (base + r0)] h (some (.int rE)) hE := by
  refine g_entry RX12 (by decide) rfl (Nat.le_of_ble_eq_true rfl) ?_
  intro p e s m args below meth c X hr
  unfold fX12_found at hf
  have hf := zlet_n (x := h) rfl hf
  show zG p l e { frames := 9, cells := 0, slots := 0, locals := 213 } s m args below meth c (MQ below (zQ D cA base h hE (some (.int rE))) args s 0 0 (zA base)) 3 D cA base h 0 [(0, .ref (base + r0))] [] h
  refine g_aload_n X 0 dX12_found_0 rfl ?_
  refine g_iconst X (v := 0) dX12_found_1 (by decide) ?_
  obtain ⟨hk1, hf⟩ := zite hf
  refine g_putI X zf12 hk1 0 (by decide) w_f_RX12_86 rfl rfl rfl dX12_found_2 ?_
  refine g_hp (fun h2 eh2 => ?_)
  have hf := zlet_n eh2 hf
  refine g_aload_n X 0 dX12_found_5 rfl ?_
  refine g_get X zf12 hk1 3 (by decide) w_f_RX12_329 rfl rfl dX12_found_6 ?_
  refine g_ifnonnull X 18 dX12_found_9 (by decide) (fun _ hq => ?_) (fun hq => ?_)
  · have hf := zpos (by rw [hq]; rfl) hf
    refine g_iconst X (v := 0) dX12_found_18 (by decide) ?_
    refine g_istore_n X [(1, .int ((0 : Int32))), (0, .ref (base + r0))] dX12_found_19 (by decide) rfl ?_
    refine g_iconst X (v := 0) dX12_found_20 (by decide) ?_
    refine g_istore_n X [(2, .int ((0 : Int32))), (1, .int ((0 : Int32))), (0, .ref (base + r0))] dX12_found_21 (by decide) rfl ?_
    refine g_sub [2, 1, 0] rfl ?_
    obtain ⟨qq, hlp, hf⟩ := zbd hf
    refine lp_snd (body := (fun q : Int32 × Int32 × Zh => bX12_found_22 h r0 q.1 q.2.1 q.2.2)) (P := (fun q : Int32 × Int32 × Zh => zG p l e { frames := 9, cells := 0, slots := 0, locals := 213 } s m args below meth c (MQ below (zQ D cA base h hE (some (.int rE))) args s 0 0 (zA base)) 3 D cA base h 22 [(0, .ref (base + r0)), (1, .int q.1), (2, .int q.2.1)] [] q.2.2)) (E := (fun (en : Nat) (q : Int32 × Int32 × Zh) => zG p l e { frames := 9, cells := 0, slots := 0, locals := 213 } s m args below meth c (MQ below (zQ D cA base h hE (some (.int rE))) args s 0 0 (zA base)) 3 D cA base h 59 [(0, .ref (base + r0)), (1, .int q.1)] [] q.2.2)) ?_ zB ((0 : Int32), ((0 : Int32), h2)) qq.1 qq.2 hlp ?_
    · intro q e_22 q_22 hf hc0 hc1
      obtain ⟨x1_22, x2_22, h_22⟩ := q
      have hf : bX12_found_22 h r0 x1_22 x2_22 h_22 = some (e_22, q_22) := hf
      unfold bX12_found_22 at hf
      show zG p l e { frames := 9, cells := 0, slots := 0, locals := 213 } s m args below meth c (MQ below (zQ D cA base h hE (some (.int rE))) args s 0 0 (zA base)) 3 D cA base h 22 [(0, .ref (base + r0)), (1, .int x1_22), (2, .int x2_22)] [] h_22
      refine g_iload_n X 2 dX12_found_22 rfl ?_
      refine g_aload_n X 0 dX12_found_23 rfl ?_
      obtain ⟨r_3, hr_3, hf⟩ := zbd hf
      refine g_get X zf12 hk1 3 (by decide) w_f_RX12_329 rfl (zfv_r hr_3 rfl) dX12_found_24 ?_
      obtain ⟨hk4, hf⟩ := zite hf
      refine g_getN X zf11 hk4 5 (by decide) w_fn_RX12_259 rfl rfl dX12_found_27 ?_
      refine g_icmp_ge X 59 dX12_found_30 (by decide) (fun hq => ?_) (fun hq => ?_)
      · have hf := zpos hq hf
        cases hf
        have hc1 := hc1 (by decide)
        exact g_sub [0, 1] rfl hc1
      · have hf := zneg hq hf
        refine g_iload_n X 1 dX12_found_33 rfl ?_
        refine g_aload_n X 0 dX12_found_34 rfl ?_
        refine g_iload_n X 2 dX12_found_35 rfl ?_
        obtain ⟨v6, h5, hch5, hf⟩ := zc2_e hf
        refine g_callV X 1 (sX12_firstWrong hch5) zf12 hk1 ydX12_firstWrong w_ml_RX12_504 w_instanceMethod_X12_firstWrong w_sel_X12_firstWrong w_ini_RX12 w_code_X12_firstWrong (by decide) rfl (st := [.int x1_22]) rfl rfl (Nat.le_of_ble_eq_true rfl) dX12_found_36 ?_
        refine g_bipush X (v := -2) dX12_found_39 (by decide) ?_
        refine g_icmp_ne X 50 dX12_found_41 (by decide) (fun hq => ?_) (fun hq => ?_)
        · have hf := zneg hq hf
          refine g_iconst X (v := 0) dX12_found_50 (by decide) ?_
          refine g_ior X dX12_found_51 ?_
          refine g_topi (fun y7 ey7 => ?_)
          have hf := zlet_n ey7 hf
          refine g_istore_n X [(1, .int y7), (0, .ref (base + r0)), (2, .int x2_22)] dX12_found_52 (by decide) rfl ?_
          obtain ⟨y8, ey8⟩ : ∃ y : Int32, y = x2_22 + (1 : Int32) := ⟨_, rfl⟩
          have hf := zlet_n ey8 hf
          refine g_iinc X (j := 2) [(2, .int y8), (1, .int y7), (0, .ref (base + r0))] dX12_found_53 rfl (by rw [ey8]; rfl) (by decide) rfl ?_
          refine g_goto X 22 dX12_found_56 (by decide) ?_
          cases hf
          exact g_sub [2, 1, 0] rfl (hc0 rfl)
        · have hf := zpos hq hf
          refine g_iconst X (v := 1) dX12_found_44 (by decide) ?_
          refine g_iload_n X 2 dX12_found_45 rfl ?_
          refine g_ishl X dX12_found_46 ?_
          refine g_goto X 51 dX12_found_47 (by decide) ?_
          refine g_ior X dX12_found_51 ?_
          refine g_topi (fun y9 ey9 => ?_)
          have hf := zlet_n ey9 hf
          refine g_istore_n X [(1, .int y9), (0, .ref (base + r0)), (2, .int x2_22)] dX12_found_52 (by decide) rfl ?_
          obtain ⟨y10, ey10⟩ : ∃ y : Int32, y = x2_22 + (1 : Int32) := ⟨_, rfl⟩
          have hf := zlet_n ey10 hf
          refine g_iinc X (j := 2) [(2, .int y10), (1, .int y9), (0, .ref (base + r0))] dX12_found_53 rfl (by rw [ey10]; rfl) (by decide) rfl ?_
          refine g_goto X 22 dX12_found_56 (by decide) ?_
          cases hf
          exact g_sub [2, 1, 0] rfl (hc0 rfl)
    · obtain ⟨ee, x1_k22, x2_k22, h_k22⟩ := qq
      have hf : kX12_found_22 h r0 ee x1_k22 x2_k22 h_k22 = some (rE, hE) := hf
      unfold kX12_found_22 at hf
      show zG p l e { frames := 9, cells := 0, slots := 0, locals := 213 } s m args below meth c (MQ below (zQ D cA base h hE (some (.int rE))) args s 0 0 (zA base)) 3 D cA base h 59 [(0, .ref (base + r0)), (1, .int x1_k22)] [] h_k22
      refine g_aload_n X 0 dX12_found_59 rfl ?_
      refine g_iload_n X 1 dX12_found_60 rfl ?_
      obtain ⟨v12, h11, hch11, hf⟩ := zc2_e hf
      refine g_callV X 1 (sX12_good hch11) zf12 hk1 ydX12_good w_ml_RX12_96 w_instanceMethod_X12_good w_sel_X12_good w_ini_RX12 w_code_X12_good (by decide) rfl (st := []) rfl rfl (Nat.le_of_ble_eq_true rfl) dX12_found_61 ?_
      obtain ⟨rfl, rfl⟩ := zsm hf
      exact g_iret X hr dX12_found_64
  · have hf := zneg (by rw [hq]; decide) hf
    refine g_aload_n X 0 dX12_found_12 rfl ?_
    refine g_iconst X (v := 1) dX12_found_13 (by decide) ?_
    obtain ⟨v14, h13, hch13, hf⟩ := zc2_e hf
    refine g_callV X 1 (sX12_refused hch13) zf12 hk1 ydX12_refused w_ml_RX12_92 w_instanceMethod_X12_refused w_sel_X12_refused w_ini_RX12 w_code_X12_refused (by decide) rfl (st := []) rfl rfl (Nat.le_of_ble_eq_true rfl) dX12_found_14 ?_
    obtain ⟨rfl, rfl⟩ := zsm hf
    exact g_iret X hr dX12_found_17

set_option maxHeartbeats 4000000 in
set_option maxRecDepth 100000 in
theorem sX12_apartNow {l : Launch} {D : va_G} {cA : Nat → ClassId} {base : Nat} {sA : Nat → Nat} {r0 : Nat} {x1 : Int32} {x2 : Int32} {h hE : Zh} {rE : Int32} (hf : fX12_apartNow r0 x1 x2 h = some (rE, hE)) : zC l yX12_apartNow cX12_apartNow 5 (some .int) 7 169 D cA base sA [.ref (base + r0), .int x1, .int x2] h (some (.int rE)) hE := by
  refine g_entry RX12 (by decide) rfl (Nat.le_of_ble_eq_true rfl) ?_
  intro p e s m args below meth c X hr
  unfold fX12_apartNow at hf
  have hf := zlet_n (x := h) rfl hf
  show zG p l e { frames := 7, cells := 0, slots := 0, locals := 169 } s m args below meth c (MQ below (zQ D cA base h hE (some (.int rE))) args s 0 0 (zA base)) 5 D cA base h 0 [(0, .ref (base + r0)), (1, .int x1), (2, .int x2)] [] h
  refine g_iconst X (v := 0) dX12_apartNow_0 (by decide) ?_
  refine g_istore_n X [(3, .int ((0 : Int32))), (0, .ref (base + r0)), (1, .int x1), (2, .int x2)] dX12_apartNow_1 (by decide) rfl ?_
  refine g_iconst X (v := 0) dX12_apartNow_2 (by decide) ?_
  refine g_istore X [(4, .int ((0 : Int32))), (3, .int ((0 : Int32))), (0, .ref (base + r0)), (1, .int x1), (2, .int x2)] dX12_apartNow_3 (by decide) rfl ?_
  refine g_sub [2, 3, 4, 1, 0] rfl ?_
  obtain ⟨qq, hlp, hf⟩ := zbd hf
  refine lp_snd (body := (fun q : Int32 × Int32 × Zh => bX12_apartNow_5 h r0 x1 x2 q.1 q.2.1 q.2.2)) (P := (fun q : Int32 × Int32 × Zh => zG p l e { frames := 7, cells := 0, slots := 0, locals := 169 } s m args below meth c (MQ below (zQ D cA base h hE (some (.int rE))) args s 0 0 (zA base)) 5 D cA base h 5 [(0, .ref (base + r0)), (1, .int x1), (2, .int x2), (3, .int q.1), (4, .int q.2.1)] [] q.2.2)) (E := (fun (en : Nat) (q : Int32 × Int32 × Zh) => zG p l e { frames := 7, cells := 0, slots := 0, locals := 169 } s m args below meth c (MQ below (zQ D cA base h hE (some (.int rE))) args s 0 0 (zA base)) 5 D cA base h 45 [(3, .int q.1)] [] q.2.2)) ?_ zB ((0 : Int32), ((0 : Int32), h)) qq.1 qq.2 hlp ?_
  · intro q e_5 q_5 hf hc0 hc1
    obtain ⟨x3_5, x4_5, h_5⟩ := q
    have hf : bX12_apartNow_5 h r0 x1 x2 x3_5 x4_5 h_5 = some (e_5, q_5) := hf
    unfold bX12_apartNow_5 at hf
    show zG p l e { frames := 7, cells := 0, slots := 0, locals := 169 } s m args below meth c (MQ below (zQ D cA base h hE (some (.int rE))) args s 0 0 (zA base)) 5 D cA base h 5 [(0, .ref (base + r0)), (1, .int x1), (2, .int x2), (3, .int x3_5), (4, .int x4_5)] [] h_5
    refine g_iload X 4 dX12_apartNow_5 rfl ?_
    refine g_aload_n X 0 dX12_apartNow_7 rfl ?_
    obtain ⟨hk1, hf⟩ := zite hf
    refine g_get X zf12 hk1 17 (by decide) w_f_RX12_356 rfl rfl dX12_apartNow_8 ?_
    refine g_icmp_ge X 45 dX12_apartNow_11 (by decide) (fun hq => ?_) (fun hq => ?_)
    · have hf := zpos hq hf
      cases hf
      have hc1 := hc1 (by decide)
      exact g_sub [3] rfl hc1
    · have hf := zneg hq hf
      refine g_iload_n X 3 dX12_apartNow_14 rfl ?_
      refine g_aload_n X 0 dX12_apartNow_15 rfl ?_
      refine g_iload_n X 1 dX12_apartNow_16 rfl ?_
      refine g_iload X 4 dX12_apartNow_17 rfl ?_
      obtain ⟨v3, h2, hch2, hf⟩ := zc2_e hf
      refine g_callV X 2 (sX12_laysNow hch2) zf12 hk1 ydX12_laysNow w_ml_RX12_433 w_instanceMethod_X12_laysNow w_sel_X12_laysNow w_ini_RX12 w_code_X12_laysNow (by decide) rfl (st := [.int x3_5]) rfl rfl (Nat.le_of_ble_eq_true rfl) dX12_apartNow_19 ?_
      refine g_aload_n X 0 dX12_apartNow_22 rfl ?_
      refine g_iload_n X 2 dX12_apartNow_23 rfl ?_
      refine g_iload X 4 dX12_apartNow_24 rfl ?_
      obtain ⟨v5, h4, hch4, hf⟩ := zc2_e hf
      refine g_callV X 2 (sX12_laysNow hch4) zf12 hk1 ydX12_laysNow w_ml_RX12_433 w_instanceMethod_X12_laysNow w_sel_X12_laysNow w_ini_RX12 w_code_X12_laysNow (by decide) rfl (st := [.int v3, .int x3_5]) rfl rfl (Nat.le_of_ble_eq_true rfl) dX12_apartNow_26 ?_
      refine g_icmp_eq X 36 dX12_apartNow_29 (by decide) (fun hq => ?_) (fun hq => ?_)
      · have hf := zpos hq hf
        refine g_iconst X (v := 0) dX12_apartNow_36 (by decide) ?_
        refine g_iadd X dX12_apartNow_37 ?_
        refine g_topi (fun y6 ey6 => ?_)
        have hf := zlet_n ey6 hf
        refine g_istore_n X [(3, .int y6), (0, .ref (base + r0)), (1, .int x1), (2, .int x2), (4, .int x4_5)] dX12_apartNow_38 (by decide) rfl ?_
        obtain ⟨y7, ey7⟩ : ∃ y : Int32, y = x4_5 + (1 : Int32) := ⟨_, rfl⟩
        have hf := zlet_n ey7 hf
        refine g_iinc X (j := 4) [(4, .int y7), (3, .int y6), (0, .ref (base + r0)), (1, .int x1), (2, .int x2)] dX12_apartNow_39 rfl (by rw [ey7]; rfl) (by decide) rfl ?_
        refine g_goto X 5 dX12_apartNow_42 (by decide) ?_
        cases hf
        exact g_sub [2, 3, 4, 1, 0] rfl (hc0 rfl)
      · have hf := zneg hq hf
        refine g_iconst X (v := 1) dX12_apartNow_32 (by decide) ?_
        refine g_goto X 37 dX12_apartNow_33 (by decide) ?_
        refine g_iadd X dX12_apartNow_37 ?_
        refine g_topi (fun y8 ey8 => ?_)
        have hf := zlet_n ey8 hf
        refine g_istore_n X [(3, .int y8), (0, .ref (base + r0)), (1, .int x1), (2, .int x2), (4, .int x4_5)] dX12_apartNow_38 (by decide) rfl ?_
        obtain ⟨y9, ey9⟩ : ∃ y : Int32, y = x4_5 + (1 : Int32) := ⟨_, rfl⟩
        have hf := zlet_n ey9 hf
        refine g_iinc X (j := 4) [(4, .int y9), (3, .int y8), (0, .ref (base + r0)), (1, .int x1), (2, .int x2)] dX12_apartNow_39 rfl (by rw [ey9]; rfl) (by decide) rfl ?_
        refine g_goto X 5 dX12_apartNow_42 (by decide) ?_
        cases hf
        exact g_sub [2, 3, 4, 1, 0] rfl (hc0 rfl)
  · obtain ⟨ee, x3_k5, x4_k5, h_k5⟩ := qq
    have hf : kX12_apartNow_5 h ee x3_k5 x4_k5 h_k5 = some (rE, hE) := hf
    unfold kX12_apartNow_5 at hf
    show zG p l e { frames := 7, cells := 0, slots := 0, locals := 169 } s m args below meth c (MQ below (zQ D cA base h hE (some (.int rE))) args s 0 0 (zA base)) 5 D cA base h 45 [(3, .int x3_k5)] [] h_k5
    refine g_iload_n X 0 dX12_apartNow_45 rfl ?_
    obtain ⟨rfl, rfl⟩ := zsm hf
    exact g_iret X hr dX12_apartNow_46

set_option maxHeartbeats 4000000 in
set_option maxRecDepth 100000 in
theorem sX12_areRules {l : Launch} {D : va_G} {cA : Nat → ClassId} {base : Nat} {sA : Nat → Nat} {r0 : Nat} {x1 : Int32} {x2 : Int32} {h hE : Zh} {rE : Int32} (hf : fX12_areRules r0 x1 x2 h = some (rE, hE)) : zC l yX12_areRules cX12_areRules 3 (some .boolean) 1 21 D cA base sA [.ref (base + r0), .int x1, .int x2] h (some (.int rE)) hE := by
  refine g_entry RX12 (by decide) rfl (Nat.le_of_ble_eq_true rfl) ?_
  intro p e s m args below meth c X hr
  unfold fX12_areRules at hf
  have hf := zlet_n (x := h) rfl hf
  show zG p l e { frames := 1, cells := 0, slots := 0, locals := 21 } s m args below meth c (MQ below (zQ D cA base h hE (some (.int rE))) args s 0 0 (zA base)) 3 D cA base h 0 [(0, .ref (base + r0)), (1, .int x1), (2, .int x2)] [] h
  refine g_aload_n X 0 dX12_areRules_0 rfl ?_
  refine g_iload_n X 1 dX12_areRules_1 rfl ?_
  obtain ⟨hk1, hf⟩ := zite hf
  obtain ⟨v3, h2, hch2, hf⟩ := zc2_e hf
  refine g_callV X 1 (sX12_isRule hch2) zf12 hk1 ydX12_isRule w_ml_RX12_430 w_instanceMethod_X12_isRule w_sel_X12_isRule w_ini_RX12 w_code_X12_isRule (by decide) rfl (st := []) rfl rfl (Nat.le_of_ble_eq_true rfl) dX12_areRules_2 ?_
  refine g_if_eq X 25 dX12_areRules_5 (by decide) (fun hq => ?_) (fun hq => ?_)
  · have hf := zpos hq hf
    refine g_iconst X (v := 0) dX12_areRules_25 (by decide) ?_
    obtain ⟨rfl, rfl⟩ := zsm hf
    exact g_zret X (Or.inl rfl) hr dX12_areRules_26
  · have hf := zneg hq hf
    refine g_aload_n X 0 dX12_areRules_8 rfl ?_
    refine g_iload_n X 2 dX12_areRules_9 rfl ?_
    obtain ⟨v5, h4, hch4, hf⟩ := zc2_e hf
    refine g_callV X 1 (sX12_isRule hch4) zf12 hk1 ydX12_isRule w_ml_RX12_430 w_instanceMethod_X12_isRule w_sel_X12_isRule w_ini_RX12 w_code_X12_isRule (by decide) rfl (st := []) rfl rfl (Nat.le_of_ble_eq_true rfl) dX12_areRules_10 ?_
    refine g_if_eq X 25 dX12_areRules_13 (by decide) (fun hq => ?_) (fun hq => ?_)
    · have hf := zpos hq hf
      refine g_iconst X (v := 0) dX12_areRules_25 (by decide) ?_
      obtain ⟨rfl, rfl⟩ := zsm hf
      exact g_zret X (Or.inl rfl) hr dX12_areRules_26
    · have hf := zneg hq hf
      refine g_iload_n X 1 dX12_areRules_16 rfl ?_
      refine g_iload_n X 2 dX12_areRules_17 rfl ?_
      refine g_icmp_eq X 25 dX12_areRules_18 (by decide) (fun hq => ?_) (fun hq => ?_)
      · have hf := zpos hq hf
        refine g_iconst X (v := 0) dX12_areRules_25 (by decide) ?_
        obtain ⟨rfl, rfl⟩ := zsm hf
        exact g_zret X (Or.inl rfl) hr dX12_areRules_26
      · have hf := zneg hq hf
        refine g_iconst X (v := 1) dX12_areRules_21 (by decide) ?_
        refine g_goto X 26 dX12_areRules_22 (by decide) ?_
        obtain ⟨rfl, rfl⟩ := zsm hf
        exact g_zret X (Or.inr rfl) hr dX12_areRules_26

set_option maxHeartbeats 4000000 in
set_option maxRecDepth 100000 in
theorem sX12_apart {l : Launch} {D : va_G} {cA : Nat → ClassId} {base : Nat} {sA : Nat → Nat} {r0 : Nat} {x1 : Int32} {x2 : Int32} {h hE : Zh} {rE : Int32} (hf : fX12_apart r0 x1 x2 h = some (rE, hE)) : zC l yX12_apart cX12_apart 3 (some .int) 8 193 D cA base sA [.ref (base + r0), .int x1, .int x2] h (some (.int rE)) hE := by
  refine g_entry RX12 (by decide) rfl (Nat.le_of_ble_eq_true rfl) ?_
  intro p e s m args below meth c X hr
  unfold fX12_apart at hf
  have hf := zlet_n (x := h) rfl hf
  show zG p l e { frames := 8, cells := 0, slots := 0, locals := 193 } s m args below meth c (MQ below (zQ D cA base h hE (some (.int rE))) args s 0 0 (zA base)) 3 D cA base h 0 [(0, .ref (base + r0)), (1, .int x1), (2, .int x2)] [] h
  refine g_aload_n X 0 dX12_apart_0 rfl ?_
  refine g_iconst X (v := 0) dX12_apart_1 (by decide) ?_
  obtain ⟨hk1, hf⟩ := zite hf
  refine g_putI X zf12 hk1 0 (by decide) w_f_RX12_86 rfl rfl rfl dX12_apart_2 ?_
  refine g_hp (fun h2 eh2 => ?_)
  have hf := zlet_n eh2 hf
  refine g_aload_n X 0 dX12_apart_5 rfl ?_
  refine g_iload_n X 1 dX12_apart_6 rfl ?_
  refine g_iload_n X 2 dX12_apart_7 rfl ?_
  obtain ⟨v4, h3, hch3, hf⟩ := zc2_e hf
  refine g_callV X 2 (sX12_areRules hch3) zf12 hk1 ydX12_areRules w_ml_RX12_507 w_instanceMethod_X12_areRules w_sel_X12_areRules w_ini_RX12 w_code_X12_areRules (by decide) rfl (st := []) rfl rfl (Nat.le_of_ble_eq_true rfl) dX12_apart_8 ?_
  refine g_if_eq X 27 dX12_apart_11 (by decide) (fun hq => ?_) (fun hq => ?_)
  · have hf := zpos hq hf
    refine g_aload_n X 0 dX12_apart_27 rfl ?_
    refine g_iconst X (v := 1) dX12_apart_28 (by decide) ?_
    obtain ⟨v6, h5, hch5, hf⟩ := zc2_e hf
    refine g_callV X 1 (sX12_refused hch5) zf12 hk1 ydX12_refused w_ml_RX12_92 w_instanceMethod_X12_refused w_sel_X12_refused w_ini_RX12 w_code_X12_refused (by decide) rfl (st := []) rfl rfl (Nat.le_of_ble_eq_true rfl) dX12_apart_29 ?_
    obtain ⟨rfl, rfl⟩ := zsm hf
    exact g_iret X hr dX12_apart_32
  · have hf := zneg hq hf
    refine g_aload_n X 0 dX12_apart_14 rfl ?_
    refine g_aload_n X 0 dX12_apart_15 rfl ?_
    refine g_iload_n X 1 dX12_apart_16 rfl ?_
    refine g_iload_n X 2 dX12_apart_17 rfl ?_
    obtain ⟨v8, h7, hch7, hf⟩ := zc2_e hf
    refine g_callV X 2 (sX12_apartNow hch7) zf12 hk1 ydX12_apartNow w_ml_RX12_510 w_instanceMethod_X12_apartNow w_sel_X12_apartNow w_ini_RX12 w_code_X12_apartNow (by decide) rfl (st := [.ref (base + r0)]) rfl rfl (Nat.le_of_ble_eq_true rfl) dX12_apart_18 ?_
    obtain ⟨v10, h9, hch9, hf⟩ := zc2_e hf
    refine g_callV X 1 (sX12_good hch9) zf12 hk1 ydX12_good w_ml_RX12_96 w_instanceMethod_X12_good w_sel_X12_good w_ini_RX12 w_code_X12_good (by decide) rfl (st := []) rfl rfl (Nat.le_of_ble_eq_true rfl) dX12_apart_21 ?_
    refine g_goto X 32 dX12_apart_24 (by decide) ?_
    obtain ⟨rfl, rfl⟩ := zsm hf
    exact g_iret X hr dX12_apart_32

set_option maxHeartbeats 4000000 in
set_option maxRecDepth 100000 in
theorem sX12_mean {l : Launch} {D : va_G} {cA : Nat → ClassId} {base : Nat} {sA : Nat → Nat} {r0 : Nat} {x1 : Int32} {x2 : Int32} {x3 : Int32} {h hE : Zh} {rE : Int32} (hf : fX12_mean r0 x1 x2 x3 h = some (rE, hE)) : zC l yX12_mean cX12_mean 5 (some .int) 8 193 D cA base sA [.ref (base + r0), .int x1, .int x2, .int x3] h (some (.int rE)) hE := by
  refine g_entry RX12 (by decide) rfl (Nat.le_of_ble_eq_true rfl) ?_
  intro p e s m args below meth c X hr
  unfold fX12_mean at hf
  have hf := zlet_n (x := h) rfl hf
  show zG p l e { frames := 8, cells := 0, slots := 0, locals := 193 } s m args below meth c (MQ below (zQ D cA base h hE (some (.int rE))) args s 0 0 (zA base)) 5 D cA base h 0 [(0, .ref (base + r0)), (1, .int x1), (2, .int x2), (3, .int x3)] [] h
  refine g_aload_n X 0 dX12_mean_0 rfl ?_
  refine g_iconst X (v := 0) dX12_mean_1 (by decide) ?_
  obtain ⟨hk1, hf⟩ := zite hf
  refine g_putI X zf12 hk1 0 (by decide) w_f_RX12_86 rfl rfl rfl dX12_mean_2 ?_
  refine g_hp (fun h2 eh2 => ?_)
  have hf := zlet_n eh2 hf
  refine g_aload_n X 0 dX12_mean_5 rfl ?_
  refine g_iload_n X 1 dX12_mean_6 rfl ?_
  refine g_iload_n X 2 dX12_mean_7 rfl ?_
  obtain ⟨v4, h3, hch3, hf⟩ := zc2_e hf
  refine g_callV X 2 (sX12_areRules hch3) zf12 hk1 ydX12_areRules w_ml_RX12_507 w_instanceMethod_X12_areRules w_sel_X12_areRules w_ini_RX12 w_code_X12_areRules (by decide) rfl (st := []) rfl rfl (Nat.le_of_ble_eq_true rfl) dX12_mean_8 ?_
  refine g_if_ne X 20 dX12_mean_11 (by decide) (fun hq => ?_) (fun hq => ?_)
  · have hf := zneg hq hf
    refine g_aload_n X 0 dX12_mean_20 rfl ?_
    refine g_iload_n X 1 dX12_mean_21 rfl ?_
    refine g_iload_n X 2 dX12_mean_22 rfl ?_
    obtain ⟨v6, h5, hch5, hf⟩ := zc2_e hf
    refine g_callV X 2 (sX12_apartNow hch5) zf12 hk1 ydX12_apartNow w_ml_RX12_510 w_instanceMethod_X12_apartNow w_sel_X12_apartNow w_ini_RX12 w_code_X12_apartNow (by decide) rfl (st := []) rfl rfl (Nat.le_of_ble_eq_true rfl) dX12_mean_23 ?_
    refine g_istore X [(4, .int v6), (0, .ref (base + r0)), (1, .int x1), (2, .int x2), (3, .int x3)] dX12_mean_26 (by decide) rfl ?_
    refine g_iload X 0 dX12_mean_28 rfl ?_
    refine g_if_ne X 40 dX12_mean_30 (by decide) (fun hq => ?_) (fun hq => ?_)
    · have hf := zneg hq hf
      refine g_aload_n X 1 dX12_mean_40 rfl ?_
      refine g_iload_n X 4 dX12_mean_41 rfl ?_
      have hJ54 : ∀ (x4_54 : Int32) (t0_54 : Int32) (t1_54 : Nat) (h_54 : Zh), jX12_mean_54 h r0 x4_54 t0_54 t1_54 h_54 = some (rE, hE) → zG p l e { frames := 8, cells := 0, slots := 0, locals := 193 } s m args below meth c (MQ below (zQ D cA base h hE (some (.int rE))) args s 0 0 (zA base)) 5 D cA base h 54 [(0, .ref (base + r0)), (4, .int x4_54)] [.int t0_54, .ref (base + t1_54)] h_54 := by
        intro x4_54 t0_54 t1_54 h_54 hf
        unfold jX12_mean_54 at hf
        refine g_aload_n X 0 dX12_mean_54 rfl ?_
        refine g_get X zf12 hk1 17 (by decide) w_f_RX12_356 rfl rfl dX12_mean_55 ?_
        refine g_iload X 1 dX12_mean_58 rfl ?_
        obtain ⟨v8, h7, hch7, hf⟩ := zc2_e hf
        refine g_callS X 2 (sX12_divisor hch7) ysX12_divisor w_ml_RX12_513 w_static_X12_divisor w_ini_RX12 w_code_X12_divisor (by decide) rfl (st := [.int t0_54, .ref (base + t1_54)]) rfl rfl (Nat.le_of_ble_eq_true rfl) dX12_mean_60 ?_
        obtain ⟨hn9, hf⟩ := zite hf
        refine g_idiv X hn9 dX12_mean_63 ?_
        obtain ⟨hk10, hf⟩ := zite hf
        obtain ⟨v12, h11, hch11, hf⟩ := zc2_e hf
        refine g_callV X 1 (sX12_good hch11) zf12 hk10 ydX12_good w_ml_RX12_96 w_instanceMethod_X12_good w_sel_X12_good w_ini_RX12 w_code_X12_good (by decide) rfl (st := []) rfl rfl (Nat.le_of_ble_eq_true rfl) dX12_mean_64 ?_
        obtain ⟨rfl, rfl⟩ := zsm hf
        exact g_iret X hr dX12_mean_67
      refine g_if_eq X 50 dX12_mean_42 (by decide) (fun hq => ?_) (fun hq => ?_)
      · have hf := zpos hq hf
        refine g_aload_n X 1 dX12_mean_50 rfl ?_
        refine g_get X zf12 hk1 17 (by decide) w_f_RX12_356 rfl rfl dX12_mean_51 ?_
        refine g_sub [1, 0] rfl ?_
        exact hJ54 _ _ _ _ hf
      · have hf := zneg hq hf
        refine g_iload X 0 dX12_mean_45 rfl ?_
        refine g_goto X 54 dX12_mean_47 (by decide) ?_
        refine g_sub [1, 0] rfl ?_
        exact hJ54 _ _ _ _ hf
    · have hf := zpos hq hf
      refine g_aload_n X 1 dX12_mean_33 rfl ?_
      refine g_bipush X (v := 6) dX12_mean_34 (by decide) ?_
      obtain ⟨v14, h13, hch13, hf⟩ := zc2_e hf
      refine g_callV X 1 (sX12_refused hch13) zf12 hk1 ydX12_refused w_ml_RX12_92 w_instanceMethod_X12_refused w_sel_X12_refused w_ini_RX12 w_code_X12_refused (by decide) rfl (st := []) rfl rfl (Nat.le_of_ble_eq_true rfl) dX12_mean_36 ?_
      obtain ⟨rfl, rfl⟩ := zsm hf
      exact g_iret X hr dX12_mean_39
  · have hf := zpos hq hf
    refine g_aload_n X 0 dX12_mean_14 rfl ?_
    refine g_iconst X (v := 1) dX12_mean_15 (by decide) ?_
    obtain ⟨v16, h15, hch15, hf⟩ := zc2_e hf
    refine g_callV X 1 (sX12_refused hch15) zf12 hk1 ydX12_refused w_ml_RX12_92 w_instanceMethod_X12_refused w_sel_X12_refused w_ini_RX12 w_code_X12_refused (by decide) rfl (st := []) rfl rfl (Nat.le_of_ble_eq_true rfl) dX12_mean_16 ?_
    obtain ⟨rfl, rfl⟩ := zsm hf
    exact g_iret X hr dX12_mean_19

