/-! FifthCard hand -/
def fX10_hand (r0 : Nat) (x1 : Int32) (x2 : Int32) (h : Zh) : Option (Int32 × Zh) := zlet h fun g =>
  if zK g r0 = 10 then zc2 (fX10_noHand r0 x1 h) fun v3 h2 => if v3 = 0 then if x2 < 0 then zc2 (fX10_refuse r0 ((1 : Int32)) h2) fun v7 h6 => some (v7, h6) else (zR h2 r0 3).bind fun r_8 => if zK g r_8 = 9 then (zR h2 r_8 1).bind fun r_10 => if zK g r_10 = 0 then if x2 < (zI h2 r_10 3) then (zR h2 r0 5).bind fun r_12 => if zK g r_12 = 4 then (zR h2 r_12 0).bind fun r_14 => if zK g r_14 = 100 then if zin x1 (zL g r_14) then zc2 (fX0_cardAt (zI h2 r_14 x1.toNatClampNeg) x2 h2) fun v18 h17 => zc2 (fX10_answer r0 v18 h17) fun v20 h19 => some (v20, h19) else none else none else none else zc2 (fX10_refuse r0 ((1 : Int32)) h2) fun v22 h21 => some (v22, h21) else none else none else zc2 (fX10_refuse r0 ((1 : Int32)) h2) fun v5 h4 => some (v5, h4) else none
/-! FifthCard handOf -/
def fX10_handOf (r0 : Nat) (x1 : Int32) (x2 : Int32) (x3 : Int32) (x4 : Int32) (x5 : Int32) (h : Zh) : Option (Int32 × Zh) := zlet h fun g =>
  if zK g r0 = 10 then (zR h r0 3).bind fun r_2 => if zK g r_2 = 9 then if (zI h r_2 0) = 0 then zc2 (fX10_refuse r0 ((1 : Int32)) h) fun v43 h42 => some (v43, h42) else (zR h r0 11).bind fun r_4 => if zK g r_4 = 100 then if zin ((0 : Int32)) (zL g r_4) then zlet (zsI h r_4 ((0 : Int32)).toNatClampNeg x1) fun h7 => (zR h7 r0 11).bind fun r_8 => if zK g r_8 = 100 then if zin ((1 : Int32)) (zL g r_8) then zlet (zsI h7 r_8 ((1 : Int32)).toNatClampNeg x2) fun h11 => (zR h11 r0 11).bind fun r_12 => if zK g r_12 = 100 then if zin ((2 : Int32)) (zL g r_12) then zlet (zsI h11 r_12 ((2 : Int32)).toNatClampNeg x3) fun h15 => (zR h15 r0 11).bind fun r_16 => if zK g r_16 = 100 then if zin ((3 : Int32)) (zL g r_16) then zlet (zsI h15 r_16 ((3 : Int32)).toNatClampNeg x4) fun h19 => (zR h19 r0 11).bind fun r_20 => if zK g r_20 = 100 then if zin ((4 : Int32)) (zL g r_20) then zlet (zsI h19 r_20 ((4 : Int32)).toNatClampNeg x5) fun h23 => (zR h23 r0 3).bind fun r_24 => if zK g r_24 = 9 then (zR h23 r_24 1).bind fun r_26 => (zR h23 r0 11).bind fun r_27 => if zK g r_26 = 0 then zc2 (fX0_isHand r_26 r_27 h23) fun v30 h29 => if v30 = 0 then zc2 (fX10_refuse r0 ((2 : Int32)) h29) fun v41 h40 => some (v41, h40) else (zR h29 r0 3).bind fun r_31 => if zK g r_31 = 9 then (zR h29 r_31 1).bind fun r_33 => (zR h29 r0 11).bind fun r_34 => if zK g r_33 = 0 then zc2 (fX0_handNumber r_33 r_34 h29) fun v37 h36 => zc2 (fX10_answer r0 v37 h36) fun v39 h38 => some (v39, h38) else none else none else none else none else none else none else none else none else none else none else none else none else none else none else none else none
/-! FifthCard noRow -/
def fX10_noRow (r0 : Nat) (x1 : Int32) (h : Zh) : Option (Int32 × Zh) := zlet h fun g =>
  if x1 < 0 then some ((1 : Int32), h) else if zK g r0 = 10 then (zR h r0 3).bind fun r_2 => if zK g r_2 = 9 then (zR h r_2 1).bind fun r_4 => if zK g r_4 = 0 then if x1 < (zI h r_4 10) then some ((0 : Int32), h) else some ((1 : Int32), h) else none else none else none
/-! FifthCard row -/
def fX10_row (r0 : Nat) (x1 : Int32) (x2 : Int32) (h : Zh) : Option (Int32 × Zh) := zlet h fun g =>
  if zK g r0 = 10 then zc2 (fX10_noRow r0 x1 h) fun v3 h2 => if v3 = 0 then if x2 < 0 then zc2 (fX10_refuse r0 ((1 : Int32)) h2) fun v7 h6 => some (v7, h6) else (zR h2 r0 3).bind fun r_8 => if zK g r_8 = 9 then (zR h2 r_8 1).bind fun r_10 => if zK g r_10 = 0 then if x2 < (zI h2 r_10 5) then (zR h2 r0 3).bind fun r_12 => if zK g r_12 = 9 then (zR h2 r_12 1).bind fun r_14 => (zR h2 r0 11).bind fun r_15 => if zK g r_14 = 0 then (fX0_unpackRow r_14 x1 r_15 h2).bind fun h17 => (zR h17 r0 11).bind fun r_18 => if zK g r_18 = 100 then if zin x2 (zL g r_18) then zc2 (fX10_answer r0 (zI h17 r_18 x2.toNatClampNeg) h17) fun v22 h21 => some (v22, h21) else none else none else none else none else zc2 (fX10_refuse r0 ((1 : Int32)) h2) fun v24 h23 => some (v24, h23) else none else none else zc2 (fX10_refuse r0 ((1 : Int32)) h2) fun v5 h4 => some (v5, h4) else none
/-! FifthCard tilted -/
def fX10_tilted (r0 : Nat) (x1 : Int32) (h : Zh) : Option (Int32 × Zh) := zlet h fun g =>
  if zK g r0 = 10 then zc2 (fX10_noRow r0 x1 h) fun v3 h2 => if v3 = 0 then (zR h2 r0 3).bind fun r_4 => if zK g r_4 = 9 then (zR h2 r_4 1).bind fun r_6 => if zK g r_6 = 0 then if ¬ (zI h2 r_6 12) = 0 then zc2 (fX10_answer r0 (zrem x1 (zI h2 r_6 12)) h2) fun v10 h9 => some (v10, h9) else none else none else none else zc2 (fX10_refuse r0 ((1 : Int32)) h2) fun v12 h11 => some (v12, h11) else none
/-! FifthCard fitsHand -/
def fX10_fitsHand (r0 : Nat) (x1 : Int32) (x2 : Int32) (h : Zh) : Option (Int32 × Zh) := zlet h fun g =>
  if zK g r0 = 10 then (zR h r0 3).bind fun r_2 => if zK g r_2 = 9 then (zR h r_2 1).bind fun r_4 => (zR h r0 11).bind fun r_5 => if zK g r_4 = 0 then (fX0_unpackRow r_4 x2 r_5 h).bind fun h7 => (zR h7 r0 3).bind fun r_8 => if zK g r_8 = 9 then (zR h7 r_8 1).bind fun r_10 => (zR h7 r0 11).bind fun r_11 => (zR h7 r0 5).bind fun r_12 => if zK g r_12 = 4 then (zR h7 r_12 0).bind fun r_14 => if zK g r_14 = 100 then if zin x1 (zL g r_14) then if zK g r_10 = 0 then zc2 (fX0_isShownOf r_10 r_11 (zI h7 r_14 x1.toNatClampNeg) h7) fun v19 h18 => if v19 = 0 ∨ v19 = 1 then some (v19, h18) else none else none else none else none else none else none else none else none else none
/-! FifthCard answerWhether -/
def fX10_answerWhether (r0 : Nat) (x1 : Int32) (h : Zh) : Option (Int32 × Zh) := zlet h fun g =>
  if zK g r0 = 10 then zlet (zsI h r0 8 ((0 : Int32))) fun h2 => if x1 = 0 then some ((0 : Int32), h2) else some ((1 : Int32), h2) else none
/-! FifthCard fits -/
def fX10_fits (r0 : Nat) (x1 : Int32) (x2 : Int32) (h : Zh) : Option (Int32 × Zh) := zlet h fun g =>
  if zK g r0 = 10 then zc2 (fX10_noHand r0 x1 h) fun v3 h2 => if v3 = 0 then zc2 (fX10_noRow r0 x2 h2) fun v7 h6 => if v7 = 0 then zc2 (fX10_fitsHand r0 x1 x2 h6) fun v9 h8 => zc2 (fX10_answerWhether r0 v9 h8) fun v11 h10 => some (v11, h10) else zc2 (fX10_refuse r0 ((1 : Int32)) h6) fun v13 h12 => some (v13, h12) else zc2 (fX10_refuse r0 ((1 : Int32)) h2) fun v5 h4 => some (v5, h4) else none
/-! FifthCard fitting -/
def fX10_fitting (r0 : Nat) (h : Zh) : Option (Int32 × Zh) := zlet h fun g =>
  if zK g r0 = 10 then (zR h r0 3).bind fun r_2 => if zK g r_2 = 9 then if (zI h r_2 0) = 0 then zc2 (fX10_refuse r0 ((1 : Int32)) h) fun v13 h12 => some (v13, h12) else (zR h r0 3).bind fun r_4 => if zK g r_4 = 9 then (zR h r_4 1).bind fun r_6 => if zK g r_6 = 0 then zc2 (fX0_waysToShow r_6 h) fun v9 h8 => zc2 (fX10_answer r0 v9 h8) fun v11 h10 => some (v11, h10) else none else none else none else none
/-! FifthCard wordsWork -/
def fX10_wordsWork (r0 : Nat) (x1 : Int32) (h : Zh) : Option (Int32 × Zh) := zlet h fun g =>
  if zK g r0 = 10 then (zR h r0 3).bind fun r_2 => if zK g r_2 = 9 then if (zI h r_2 0) = 0 then zc2 (fX10_refuse r0 ((1 : Int32)) h) fun v15 h14 => some (v15, h14) else if x1 < 0 then zc2 (fX10_refuse r0 ((2 : Int32)) h) fun v5 h4 => some (v5, h4) else if x1 < ((20 : Int32)) then (zR h r0 5).bind fun r_6 => if zK g r_6 = 4 then zc2 (fX4_doWordsWork r_6 x1 h) fun v9 h8 => zc2 (fX10_answerWhether r0 v9 h8) fun v11 h10 => some (v11, h10) else none else zc2 (fX10_refuse r0 ((2 : Int32)) h) fun v13 h12 => some (v13, h12) else none else none
/-! FifthCard shortest -/
def bX10_shortest_18 (g : Zh) (r0 : Nat) (x1 : Int32) (h : Zh) : Option (Nat × Int32 × Zh) :=
  if ((20 : Int32)) ≤ x1 then some (2, (x1, h)) else (zR h r0 5).bind fun r_4 => if zK g r_4 = 4 then zc2 (fX4_doWordsWork r_4 x1 h) fun v7 h6 => if v7 = 0 then zlet (x1 + (1 : Int32)) fun y8 => some (0, (y8, h6)) else some (1, (x1, h6)) else none
def kX10_shortest_18 (g : Zh) (r0 : Nat) (e : Nat) (x1 : Int32) (h : Zh) : Option (Int32 × Zh) :=
  if e = 1 then zc2 (fX10_answer r0 x1 h) fun v10 h9 => some (v10, h9) else zc2 (fX10_answer r0 ((-2 : Int32)) h) fun v12 h11 => some (v12, h11)
def fX10_shortest (r0 : Nat) (h : Zh) : Option (Int32 × Zh) := zlet h fun g =>
  if zK g r0 = 10 then (zR h r0 3).bind fun r_2 => if zK g r_2 = 9 then if (zI h r_2 0) = 0 then zc2 (fX10_refuse r0 ((1 : Int32)) h) fun v14 h13 => some (v14, h13) else (lp (fun q : Int32 × Zh => bX10_shortest_18 g r0 q.1 q.2) zB ((0 : Int32), h)).bind fun q => kX10_shortest_18 g r0 q.1 q.2.1 q.2.2 else none else none
/-! FifthCard pairs -/
def fX10_pairs (r0 : Nat) (h : Zh) : Option (Int32 × Zh) := zlet h fun g =>
  if zK g r0 = 10 then (zR h r0 3).bind fun r_2 => if zK g r_2 = 9 then if (zI h r_2 0) = 0 then zc2 (fX10_refuse r0 ((1 : Int32)) h) fun v15 h14 => some (v15, h14) else (zR h r0 3).bind fun r_4 => if zK g r_4 = 9 then (zR h r_4 1).bind fun r_6 => if zK g r_6 = 0 then zc2 (fX0_handsOf r_6 (zI h r_6 0) h) fun v9 h8 => zc2 (fX0_rowsOf r_6 (zI h8 r_6 0) h8) fun v11 h10 => zc2 (fX10_answer r0 ((if v11 < v9 then v11 else v9).toInt32) h10) fun v13 h12 => some (v13, h12) else none else none else none else none
/-! FifthCard count -/
def fX10_count (r0 : Nat) (x1 : Int32) (x2 : Int32) (h : Zh) : Option (Int64 × Zh) := zlet h fun g =>
  if zK g r0 = 10 then (zR h r0 3).bind fun r_2 => if zK g r_2 = 9 then if (zI h r_2 0) = 0 then zc2 (fX10_refuse r0 ((1 : Int32)) h) fun v26 h25 => some (v26.toInt64, h25) else (zR h r0 3).bind fun r_4 => if zK g r_4 = 9 then (zR h r_4 1).bind fun r_6 => if zK g r_6 = 0 then if x1 < (zI h r_6 3) then zc2 (fX10_refuse r0 ((2 : Int32)) h) fun v9 h8 => some (v9.toInt64, h8) else if x1 ≤ ((200 : Int32)) then zlet (zsI h r0 8 ((0 : Int32))) fun h10 => if x2 = 0 then (zR h10 r0 3).bind fun r_11 => if zK g r_11 = 9 then (zR h10 r_11 1).bind fun r_13 => if zK g r_13 = 0 then zc2 (fX0_handsOf r_13 x1 h10) fun v16 h15 => some (v16, h15) else none else none else (zR h10 r0 3).bind fun r_17 => if zK g r_17 = 9 then (zR h10 r_17 1).bind fun r_19 => if zK g r_19 = 0 then zc2 (fX0_rowsOf r_19 x1 h10) fun v22 h21 => some (v22, h21) else none else none else zc2 (fX10_refuse r0 ((2 : Int32)) h) fun v24 h23 => some (v24.toInt64, h23) else none else none else none else none
/-! FifthCard most -/
def fX10_most (r0 : Nat) (h : Zh) : Option (Int32 × Zh) := zlet h fun g =>
  if zK g r0 = 10 then (zR h r0 3).bind fun r_2 => if zK g r_2 = 9 then if (zI h r_2 0) = 0 then zc2 (fX10_refuse r0 ((1 : Int32)) h) fun v11 h10 => some (v11, h10) else (zR h r0 5).bind fun r_4 => if zK g r_4 = 4 then zc2 (fX4_largestDeck r_4 h) fun v7 h6 => zc2 (fX10_answer r0 v7 h6) fun v9 h8 => some (v9, h8) else none else none else none
/-! FifthCard noEvening -/
def fX10_noEvening (r0 : Nat) (x1 : Int32) (h : Zh) : Option (Int32 × Zh) := zlet h fun g =>
  if x1 < 0 then some ((1 : Int32), h) else if zK g r0 = 10 then (zR h r0 3).bind fun r_2 => if zK g r_2 = 9 then (zR h r_2 4).bind fun r_4 => if zK g r_4 = 1 then if x1 < (zI h r_4 2) then some ((0 : Int32), h) else some ((1 : Int32), h) else none else none else none
/-! FifthCard judge -/
def fX10_judge (r0 : Nat) (x1 : Int32) (h : Zh) : Option (Int32 × Zh) := zlet h fun g =>
  if zK g r0 = 10 then zc2 (fX10_noEvening r0 x1 h) fun v3 h2 => if v3 = 0 then (zR h2 r0 3).bind fun r_4 => if zK g r_4 = 9 then (zR h2 r_4 4).bind fun r_6 => if zK g r_6 = 1 then (zR h2 r_6 0).bind fun r_8 => if zK g r_8 = 100 then if zin x1 (zL g r_8) then (zR h2 r0 3).bind fun r_11 => if zK g r_11 = 9 then (zR h2 r_11 4).bind fun r_13 => if zK g r_13 = 1 then (zR h2 r_13 1).bind fun r_15 => if zK g r_15 = 100 then if zin x1 (zL g r_15) then zc2 (fX10_fitsHand r0 (zI h2 r_8 x1.toNatClampNeg) (zI h2 r_15 x1.toNatClampNeg) h2) fun v19 h18 => zc2 (fX10_answerWhether r0 v19 h18) fun v21 h20 => some (v21, h20) else none else none else none else none else none else none else none else none else zc2 (fX10_refuse r0 ((1 : Int32)) h2) fun v23 h22 => some (v23, h22) else none
/-! FifthCard evening -/
def fX10_evening (r0 : Nat) (x1 : Int32) (x2 : Int32) (h : Zh) : Option (Int32 × Zh) := zlet h fun g =>
  if zK g r0 = 10 then zc2 (fX10_noEvening r0 x1 h) fun v3 h2 => if v3 = 0 then if x2 = 0 then (zR h2 r0 3).bind fun r_4 => if zK g r_4 = 9 then (zR h2 r_4 4).bind fun r_6 => if zK g r_6 = 1 then (zR h2 r_6 0).bind fun r_8 => if zK g r_8 = 100 then if zin x1 (zL g r_8) then zc2 (fX10_answer r0 (zI h2 r_8 x1.toNatClampNeg) h2) fun v12 h11 => some (v12, h11) else none else none else none else none else (zR h2 r0 3).bind fun r_13 => if zK g r_13 = 9 then (zR h2 r_13 4).bind fun r_15 => if zK g r_15 = 1 then (zR h2 r_15 1).bind fun r_17 => if zK g r_17 = 100 then if zin x1 (zL g r_17) then zc2 (fX10_answer r0 (zI h2 r_17 x1.toNatClampNeg) h2) fun v21 h20 => some (v21, h20) else none else none else none else none else zc2 (fX10_refuse r0 ((1 : Int32)) h2) fun v23 h22 => some (v23, h22) else none
/-! FifthCard isAgreed -/
def fX10_isAgreed (r0 : Nat) (r1 : Nat) (x2 : Int32) (h : Zh) : Option (Int32 × Zh) := zlet h fun g =>
  if zK g r0 = 10 then (zR h r0 3).bind fun r_2 => if zK g r_2 = 9 then (zR h r_2 4).bind fun r_4 => if zK g r_4 = 1 then (zR h r_4 0).bind fun r_6 => if zK g r_6 = 100 then if zin x2 (zL g r_6) then if zK g r1 = 100 then if zin (zI h r_6 x2.toNatClampNeg) (zL g r1) then (zR h r0 3).bind fun r_11 => if zK g r_11 = 9 then (zR h r_11 4).bind fun r_13 => if zK g r_13 = 1 then (zR h r_13 1).bind fun r_15 => if zK g r_15 = 100 then if zin x2 (zL g r_15) then if (zI h r1 (zI h r_6 x2.toNatClampNeg).toNatClampNeg) = (zI h r_15 x2.toNatClampNeg) then some ((1 : Int32), h) else some ((0 : Int32), h) else none else none else none else none else none else none else none else none else none else none else none
theorem dX10_hand_0 : decode cX10_hand 0 = .ok (.aload_n 0, 1) := by decide +kernel
theorem dX10_hand_1 : decode cX10_hand 1 = .ok (.iload_n 1, 1) := by decide +kernel
theorem dX10_hand_2 : decode cX10_hand 2 = .ok (.invokevirtual 106, 3) := by decide +kernel
theorem dX10_hand_5 : decode cX10_hand 5 = .ok (.ifCond .ne 21, 3) := by decide +kernel
theorem dX10_hand_8 : decode cX10_hand 8 = .ok (.iload_n 2, 1) := by decide +kernel
theorem dX10_hand_9 : decode cX10_hand 9 = .ok (.ifCond .lt 17, 3) := by decide +kernel
theorem dX10_hand_12 : decode cX10_hand 12 = .ok (.iload_n 2, 1) := by decide +kernel
theorem dX10_hand_13 : decode cX10_hand 13 = .ok (.aload_n 0, 1) := by decide +kernel
theorem dX10_hand_14 : decode cX10_hand 14 = .ok (.getfield 23, 3) := by decide +kernel
theorem dX10_hand_17 : decode cX10_hand 17 = .ok (.getfield 94, 3) := by decide +kernel
theorem dX10_hand_20 : decode cX10_hand 20 = .ok (.getfield 110, 3) := by decide +kernel
theorem dX10_hand_23 : decode cX10_hand 23 = .ok (.if_icmp .lt 9, 3) := by decide +kernel
theorem dX10_hand_26 : decode cX10_hand 26 = .ok (.aload_n 0, 1) := by decide +kernel
theorem dX10_hand_27 : decode cX10_hand 27 = .ok (.iconst 1, 1) := by decide +kernel
theorem dX10_hand_28 : decode cX10_hand 28 = .ok (.invokevirtual 56, 3) := by decide +kernel
theorem dX10_hand_31 : decode cX10_hand 31 = .ok (.ireturn, 1) := by decide +kernel
theorem dX10_hand_32 : decode cX10_hand 32 = .ok (.aload_n 0, 1) := by decide +kernel
theorem dX10_hand_33 : decode cX10_hand 33 = .ok (.aload_n 0, 1) := by decide +kernel
theorem dX10_hand_34 : decode cX10_hand 34 = .ok (.getfield 33, 3) := by decide +kernel
theorem dX10_hand_37 : decode cX10_hand 37 = .ok (.getfield 113, 3) := by decide +kernel
theorem dX10_hand_40 : decode cX10_hand 40 = .ok (.iload_n 1, 1) := by decide +kernel
theorem dX10_hand_41 : decode cX10_hand 41 = .ok (.iaload, 1) := by decide +kernel
theorem dX10_hand_42 : decode cX10_hand 42 = .ok (.iload_n 2, 1) := by decide +kernel
theorem dX10_hand_43 : decode cX10_hand 43 = .ok (.invokestatic 116, 3) := by decide +kernel
theorem dX10_hand_46 : decode cX10_hand 46 = .ok (.invokevirtual 84, 3) := by decide +kernel
theorem dX10_hand_49 : decode cX10_hand 49 = .ok (.ireturn, 1) := by decide +kernel
theorem dX10_handOf_0 : decode cX10_handOf 0 = .ok (.aload_n 0, 1) := by decide +kernel
theorem dX10_handOf_1 : decode cX10_handOf 1 = .ok (.getfield 23, 3) := by decide +kernel
theorem dX10_handOf_4 : decode cX10_handOf 4 = .ok (.getfield 90, 3) := by decide +kernel
theorem dX10_handOf_7 : decode cX10_handOf 7 = .ok (.ifCond .ne 9, 3) := by decide +kernel
theorem dX10_handOf_10 : decode cX10_handOf 10 = .ok (.aload_n 0, 1) := by decide +kernel
theorem dX10_handOf_11 : decode cX10_handOf 11 = .ok (.iconst 1, 1) := by decide +kernel
theorem dX10_handOf_12 : decode cX10_handOf 12 = .ok (.invokevirtual 56, 3) := by decide +kernel
theorem dX10_handOf_15 : decode cX10_handOf 15 = .ok (.ireturn, 1) := by decide +kernel
theorem dX10_handOf_16 : decode cX10_handOf 16 = .ok (.aload_n 0, 1) := by decide +kernel
theorem dX10_handOf_17 : decode cX10_handOf 17 = .ok (.getfield 44, 3) := by decide +kernel
theorem dX10_handOf_20 : decode cX10_handOf 20 = .ok (.iconst 0, 1) := by decide +kernel
theorem dX10_handOf_21 : decode cX10_handOf 21 = .ok (.iload_n 1, 1) := by decide +kernel
theorem dX10_handOf_22 : decode cX10_handOf 22 = .ok (.iastore, 1) := by decide +kernel
theorem dX10_handOf_23 : decode cX10_handOf 23 = .ok (.aload_n 0, 1) := by decide +kernel
theorem dX10_handOf_24 : decode cX10_handOf 24 = .ok (.getfield 44, 3) := by decide +kernel
theorem dX10_handOf_27 : decode cX10_handOf 27 = .ok (.iconst 1, 1) := by decide +kernel
theorem dX10_handOf_28 : decode cX10_handOf 28 = .ok (.iload_n 2, 1) := by decide +kernel
theorem dX10_handOf_29 : decode cX10_handOf 29 = .ok (.iastore, 1) := by decide +kernel
theorem dX10_handOf_30 : decode cX10_handOf 30 = .ok (.aload_n 0, 1) := by decide +kernel
theorem dX10_handOf_31 : decode cX10_handOf 31 = .ok (.getfield 44, 3) := by decide +kernel
theorem dX10_handOf_34 : decode cX10_handOf 34 = .ok (.iconst 2, 1) := by decide +kernel
theorem dX10_handOf_35 : decode cX10_handOf 35 = .ok (.iload_n 3, 1) := by decide +kernel
theorem dX10_handOf_36 : decode cX10_handOf 36 = .ok (.iastore, 1) := by decide +kernel
theorem dX10_handOf_37 : decode cX10_handOf 37 = .ok (.aload_n 0, 1) := by decide +kernel
theorem dX10_handOf_38 : decode cX10_handOf 38 = .ok (.getfield 44, 3) := by decide +kernel
theorem dX10_handOf_41 : decode cX10_handOf 41 = .ok (.iconst 3, 1) := by decide +kernel
theorem dX10_handOf_42 : decode cX10_handOf 42 = .ok (.iload 4, 2) := by decide +kernel
theorem dX10_handOf_44 : decode cX10_handOf 44 = .ok (.iastore, 1) := by decide +kernel
theorem dX10_handOf_45 : decode cX10_handOf 45 = .ok (.aload_n 0, 1) := by decide +kernel
theorem dX10_handOf_46 : decode cX10_handOf 46 = .ok (.getfield 44, 3) := by decide +kernel
theorem dX10_handOf_49 : decode cX10_handOf 49 = .ok (.iconst 4, 1) := by decide +kernel
theorem dX10_handOf_50 : decode cX10_handOf 50 = .ok (.iload 5, 2) := by decide +kernel
theorem dX10_handOf_52 : decode cX10_handOf 52 = .ok (.iastore, 1) := by decide +kernel
theorem dX10_handOf_53 : decode cX10_handOf 53 = .ok (.aload_n 0, 1) := by decide +kernel
theorem dX10_handOf_54 : decode cX10_handOf 54 = .ok (.getfield 23, 3) := by decide +kernel
theorem dX10_handOf_57 : decode cX10_handOf 57 = .ok (.getfield 94, 3) := by decide +kernel
theorem dX10_handOf_60 : decode cX10_handOf 60 = .ok (.aload_n 0, 1) := by decide +kernel
theorem dX10_handOf_61 : decode cX10_handOf 61 = .ok (.getfield 44, 3) := by decide +kernel
theorem dX10_handOf_64 : decode cX10_handOf 64 = .ok (.invokevirtual 120, 3) := by decide +kernel
theorem dX10_handOf_67 : decode cX10_handOf 67 = .ok (.ifCond .ne 9, 3) := by decide +kernel
theorem dX10_handOf_70 : decode cX10_handOf 70 = .ok (.aload_n 0, 1) := by decide +kernel
theorem dX10_handOf_71 : decode cX10_handOf 71 = .ok (.iconst 2, 1) := by decide +kernel
theorem dX10_handOf_72 : decode cX10_handOf 72 = .ok (.invokevirtual 56, 3) := by decide +kernel
theorem dX10_handOf_75 : decode cX10_handOf 75 = .ok (.ireturn, 1) := by decide +kernel
theorem dX10_handOf_76 : decode cX10_handOf 76 = .ok (.aload_n 0, 1) := by decide +kernel
theorem dX10_handOf_77 : decode cX10_handOf 77 = .ok (.aload_n 0, 1) := by decide +kernel
theorem dX10_handOf_78 : decode cX10_handOf 78 = .ok (.getfield 23, 3) := by decide +kernel
theorem dX10_handOf_81 : decode cX10_handOf 81 = .ok (.getfield 94, 3) := by decide +kernel
theorem dX10_handOf_84 : decode cX10_handOf 84 = .ok (.aload_n 0, 1) := by decide +kernel
theorem dX10_handOf_85 : decode cX10_handOf 85 = .ok (.getfield 44, 3) := by decide +kernel
theorem dX10_handOf_88 : decode cX10_handOf 88 = .ok (.invokevirtual 124, 3) := by decide +kernel
theorem dX10_handOf_91 : decode cX10_handOf 91 = .ok (.invokevirtual 84, 3) := by decide +kernel
theorem dX10_handOf_94 : decode cX10_handOf 94 = .ok (.ireturn, 1) := by decide +kernel
theorem dX10_noRow_0 : decode cX10_noRow 0 = .ok (.iload_n 1, 1) := by decide +kernel
theorem dX10_noRow_1 : decode cX10_noRow 1 = .ok (.ifCond .lt 17, 3) := by decide +kernel
theorem dX10_noRow_4 : decode cX10_noRow 4 = .ok (.iload_n 1, 1) := by decide +kernel
theorem dX10_noRow_5 : decode cX10_noRow 5 = .ok (.aload_n 0, 1) := by decide +kernel
theorem dX10_noRow_6 : decode cX10_noRow 6 = .ok (.getfield 23, 3) := by decide +kernel
theorem dX10_noRow_9 : decode cX10_noRow 9 = .ok (.getfield 94, 3) := by decide +kernel
theorem dX10_noRow_12 : decode cX10_noRow 12 = .ok (.getfield 103, 3) := by decide +kernel
theorem dX10_noRow_15 : decode cX10_noRow 15 = .ok (.if_icmp .lt 7, 3) := by decide +kernel
theorem dX10_noRow_18 : decode cX10_noRow 18 = .ok (.iconst 1, 1) := by decide +kernel
theorem dX10_noRow_19 : decode cX10_noRow 19 = .ok (.goto 4, 3) := by decide +kernel
theorem dX10_noRow_22 : decode cX10_noRow 22 = .ok (.iconst 0, 1) := by decide +kernel
theorem dX10_noRow_23 : decode cX10_noRow 23 = .ok (.ireturn, 1) := by decide +kernel
theorem dX10_row_0 : decode cX10_row 0 = .ok (.aload_n 0, 1) := by decide +kernel
theorem dX10_row_1 : decode cX10_row 1 = .ok (.iload_n 1, 1) := by decide +kernel
theorem dX10_row_2 : decode cX10_row 2 = .ok (.invokevirtual 128, 3) := by decide +kernel
theorem dX10_row_5 : decode cX10_row 5 = .ok (.ifCond .ne 21, 3) := by decide +kernel
theorem dX10_row_8 : decode cX10_row 8 = .ok (.iload_n 2, 1) := by decide +kernel
theorem dX10_row_9 : decode cX10_row 9 = .ok (.ifCond .lt 17, 3) := by decide +kernel
theorem dX10_row_12 : decode cX10_row 12 = .ok (.iload_n 2, 1) := by decide +kernel
theorem dX10_row_13 : decode cX10_row 13 = .ok (.aload_n 0, 1) := by decide +kernel
theorem dX10_row_14 : decode cX10_row 14 = .ok (.getfield 23, 3) := by decide +kernel
theorem dX10_row_17 : decode cX10_row 17 = .ok (.getfield 94, 3) := by decide +kernel
theorem dX10_row_20 : decode cX10_row 20 = .ok (.getfield 131, 3) := by decide +kernel
theorem dX10_row_23 : decode cX10_row 23 = .ok (.if_icmp .lt 9, 3) := by decide +kernel
theorem dX10_row_26 : decode cX10_row 26 = .ok (.aload_n 0, 1) := by decide +kernel
theorem dX10_row_27 : decode cX10_row 27 = .ok (.iconst 1, 1) := by decide +kernel
theorem dX10_row_28 : decode cX10_row 28 = .ok (.invokevirtual 56, 3) := by decide +kernel
theorem dX10_row_31 : decode cX10_row 31 = .ok (.ireturn, 1) := by decide +kernel
theorem dX10_row_32 : decode cX10_row 32 = .ok (.aload_n 0, 1) := by decide +kernel
theorem dX10_row_33 : decode cX10_row 33 = .ok (.getfield 23, 3) := by decide +kernel
theorem dX10_row_36 : decode cX10_row 36 = .ok (.getfield 94, 3) := by decide +kernel
theorem dX10_row_39 : decode cX10_row 39 = .ok (.iload_n 1, 1) := by decide +kernel
theorem dX10_row_40 : decode cX10_row 40 = .ok (.aload_n 0, 1) := by decide +kernel
theorem dX10_row_41 : decode cX10_row 41 = .ok (.getfield 44, 3) := by decide +kernel
theorem dX10_row_44 : decode cX10_row 44 = .ok (.invokevirtual 134, 3) := by decide +kernel
theorem dX10_row_47 : decode cX10_row 47 = .ok (.aload_n 0, 1) := by decide +kernel
theorem dX10_row_48 : decode cX10_row 48 = .ok (.aload_n 0, 1) := by decide +kernel
theorem dX10_row_49 : decode cX10_row 49 = .ok (.getfield 44, 3) := by decide +kernel
theorem dX10_row_52 : decode cX10_row 52 = .ok (.iload_n 2, 1) := by decide +kernel
theorem dX10_row_53 : decode cX10_row 53 = .ok (.iaload, 1) := by decide +kernel
theorem dX10_row_54 : decode cX10_row 54 = .ok (.invokevirtual 84, 3) := by decide +kernel
theorem dX10_row_57 : decode cX10_row 57 = .ok (.ireturn, 1) := by decide +kernel
theorem dX10_tilted_0 : decode cX10_tilted 0 = .ok (.aload_n 0, 1) := by decide +kernel
theorem dX10_tilted_1 : decode cX10_tilted 1 = .ok (.iload_n 1, 1) := by decide +kernel
theorem dX10_tilted_2 : decode cX10_tilted 2 = .ok (.invokevirtual 128, 3) := by decide +kernel
theorem dX10_tilted_5 : decode cX10_tilted 5 = .ok (.ifCond .eq 9, 3) := by decide +kernel
theorem dX10_tilted_8 : decode cX10_tilted 8 = .ok (.aload_n 0, 1) := by decide +kernel
theorem dX10_tilted_9 : decode cX10_tilted 9 = .ok (.iconst 1, 1) := by decide +kernel
theorem dX10_tilted_10 : decode cX10_tilted 10 = .ok (.invokevirtual 56, 3) := by decide +kernel
theorem dX10_tilted_13 : decode cX10_tilted 13 = .ok (.ireturn, 1) := by decide +kernel
theorem dX10_tilted_14 : decode cX10_tilted 14 = .ok (.aload_n 0, 1) := by decide +kernel
theorem dX10_tilted_15 : decode cX10_tilted 15 = .ok (.iload_n 1, 1) := by decide +kernel
theorem dX10_tilted_16 : decode cX10_tilted 16 = .ok (.aload_n 0, 1) := by decide +kernel
theorem dX10_tilted_17 : decode cX10_tilted 17 = .ok (.getfield 23, 3) := by decide +kernel
theorem dX10_tilted_20 : decode cX10_tilted 20 = .ok (.getfield 94, 3) := by decide +kernel
theorem dX10_tilted_23 : decode cX10_tilted 23 = .ok (.getfield 138, 3) := by decide +kernel
theorem dX10_tilted_26 : decode cX10_tilted 26 = .ok (.irem, 1) := by decide +kernel
theorem dX10_tilted_27 : decode cX10_tilted 27 = .ok (.invokevirtual 84, 3) := by decide +kernel
theorem dX10_tilted_30 : decode cX10_tilted 30 = .ok (.ireturn, 1) := by decide +kernel
theorem dX10_fitsHand_0 : decode cX10_fitsHand 0 = .ok (.aload_n 0, 1) := by decide +kernel
theorem dX10_fitsHand_1 : decode cX10_fitsHand 1 = .ok (.getfield 23, 3) := by decide +kernel
theorem dX10_fitsHand_4 : decode cX10_fitsHand 4 = .ok (.getfield 94, 3) := by decide +kernel
theorem dX10_fitsHand_7 : decode cX10_fitsHand 7 = .ok (.iload_n 2, 1) := by decide +kernel
theorem dX10_fitsHand_8 : decode cX10_fitsHand 8 = .ok (.aload_n 0, 1) := by decide +kernel
theorem dX10_fitsHand_9 : decode cX10_fitsHand 9 = .ok (.getfield 44, 3) := by decide +kernel
theorem dX10_fitsHand_12 : decode cX10_fitsHand 12 = .ok (.invokevirtual 134, 3) := by decide +kernel
theorem dX10_fitsHand_15 : decode cX10_fitsHand 15 = .ok (.aload_n 0, 1) := by decide +kernel
theorem dX10_fitsHand_16 : decode cX10_fitsHand 16 = .ok (.getfield 23, 3) := by decide +kernel
theorem dX10_fitsHand_19 : decode cX10_fitsHand 19 = .ok (.getfield 94, 3) := by decide +kernel
theorem dX10_fitsHand_22 : decode cX10_fitsHand 22 = .ok (.aload_n 0, 1) := by decide +kernel
theorem dX10_fitsHand_23 : decode cX10_fitsHand 23 = .ok (.getfield 44, 3) := by decide +kernel
theorem dX10_fitsHand_26 : decode cX10_fitsHand 26 = .ok (.aload_n 0, 1) := by decide +kernel
theorem dX10_fitsHand_27 : decode cX10_fitsHand 27 = .ok (.getfield 33, 3) := by decide +kernel
theorem dX10_fitsHand_30 : decode cX10_fitsHand 30 = .ok (.getfield 113, 3) := by decide +kernel
theorem dX10_fitsHand_33 : decode cX10_fitsHand 33 = .ok (.iload_n 1, 1) := by decide +kernel
theorem dX10_fitsHand_34 : decode cX10_fitsHand 34 = .ok (.iaload, 1) := by decide +kernel
theorem dX10_fitsHand_35 : decode cX10_fitsHand 35 = .ok (.invokevirtual 149, 3) := by decide +kernel
theorem dX10_fitsHand_38 : decode cX10_fitsHand 38 = .ok (.ireturn, 1) := by decide +kernel
theorem dX10_answerWhether_0 : decode cX10_answerWhether 0 = .ok (.aload_n 0, 1) := by decide +kernel
theorem dX10_answerWhether_1 : decode cX10_answerWhether 1 = .ok (.iconst 0, 1) := by decide +kernel
theorem dX10_answerWhether_2 : decode cX10_answerWhether 2 = .ok (.putfield 87, 3) := by decide +kernel
theorem dX10_answerWhether_5 : decode cX10_answerWhether 5 = .ok (.iload_n 1, 1) := by decide +kernel
theorem dX10_answerWhether_6 : decode cX10_answerWhether 6 = .ok (.ifCond .eq 7, 3) := by decide +kernel
theorem dX10_answerWhether_9 : decode cX10_answerWhether 9 = .ok (.iconst 1, 1) := by decide +kernel
theorem dX10_answerWhether_10 : decode cX10_answerWhether 10 = .ok (.goto 4, 3) := by decide +kernel
theorem dX10_answerWhether_13 : decode cX10_answerWhether 13 = .ok (.iconst 0, 1) := by decide +kernel
theorem dX10_answerWhether_14 : decode cX10_answerWhether 14 = .ok (.ireturn, 1) := by decide +kernel
theorem dX10_fits_0 : decode cX10_fits 0 = .ok (.aload_n 0, 1) := by decide +kernel
theorem dX10_fits_1 : decode cX10_fits 1 = .ok (.iload_n 1, 1) := by decide +kernel
theorem dX10_fits_2 : decode cX10_fits 2 = .ok (.invokevirtual 106, 3) := by decide +kernel
theorem dX10_fits_5 : decode cX10_fits 5 = .ok (.ifCond .ne 11, 3) := by decide +kernel
theorem dX10_fits_8 : decode cX10_fits 8 = .ok (.aload_n 0, 1) := by decide +kernel
theorem dX10_fits_9 : decode cX10_fits 9 = .ok (.iload_n 2, 1) := by decide +kernel
theorem dX10_fits_10 : decode cX10_fits 10 = .ok (.invokevirtual 128, 3) := by decide +kernel
theorem dX10_fits_13 : decode cX10_fits 13 = .ok (.ifCond .eq 9, 3) := by decide +kernel
theorem dX10_fits_16 : decode cX10_fits 16 = .ok (.aload_n 0, 1) := by decide +kernel
theorem dX10_fits_17 : decode cX10_fits 17 = .ok (.iconst 1, 1) := by decide +kernel
theorem dX10_fits_18 : decode cX10_fits 18 = .ok (.invokevirtual 56, 3) := by decide +kernel
theorem dX10_fits_21 : decode cX10_fits 21 = .ok (.ireturn, 1) := by decide +kernel
theorem dX10_fits_22 : decode cX10_fits 22 = .ok (.aload_n 0, 1) := by decide +kernel
theorem dX10_fits_23 : decode cX10_fits 23 = .ok (.aload_n 0, 1) := by decide +kernel
theorem dX10_fits_24 : decode cX10_fits 24 = .ok (.iload_n 1, 1) := by decide +kernel
theorem dX10_fits_25 : decode cX10_fits 25 = .ok (.iload_n 2, 1) := by decide +kernel
theorem dX10_fits_26 : decode cX10_fits 26 = .ok (.invokevirtual 141, 3) := by decide +kernel
theorem dX10_fits_29 : decode cX10_fits 29 = .ok (.invokevirtual 145, 3) := by decide +kernel
theorem dX10_fits_32 : decode cX10_fits 32 = .ok (.ireturn, 1) := by decide +kernel
theorem dX10_fitting_0 : decode cX10_fitting 0 = .ok (.aload_n 0, 1) := by decide +kernel
theorem dX10_fitting_1 : decode cX10_fitting 1 = .ok (.getfield 23, 3) := by decide +kernel
theorem dX10_fitting_4 : decode cX10_fitting 4 = .ok (.getfield 90, 3) := by decide +kernel
theorem dX10_fitting_7 : decode cX10_fitting 7 = .ok (.ifCond .ne 9, 3) := by decide +kernel
theorem dX10_fitting_10 : decode cX10_fitting 10 = .ok (.aload_n 0, 1) := by decide +kernel
theorem dX10_fitting_11 : decode cX10_fitting 11 = .ok (.iconst 1, 1) := by decide +kernel
theorem dX10_fitting_12 : decode cX10_fitting 12 = .ok (.invokevirtual 56, 3) := by decide +kernel
theorem dX10_fitting_15 : decode cX10_fitting 15 = .ok (.ireturn, 1) := by decide +kernel
theorem dX10_fitting_16 : decode cX10_fitting 16 = .ok (.aload_n 0, 1) := by decide +kernel
theorem dX10_fitting_17 : decode cX10_fitting 17 = .ok (.aload_n 0, 1) := by decide +kernel
theorem dX10_fitting_18 : decode cX10_fitting 18 = .ok (.getfield 23, 3) := by decide +kernel
theorem dX10_fitting_21 : decode cX10_fitting 21 = .ok (.getfield 94, 3) := by decide +kernel
theorem dX10_fitting_24 : decode cX10_fitting 24 = .ok (.invokevirtual 153, 3) := by decide +kernel
theorem dX10_fitting_27 : decode cX10_fitting 27 = .ok (.invokevirtual 84, 3) := by decide +kernel
theorem dX10_fitting_30 : decode cX10_fitting 30 = .ok (.ireturn, 1) := by decide +kernel
theorem dX10_wordsWork_0 : decode cX10_wordsWork 0 = .ok (.aload_n 0, 1) := by decide +kernel
theorem dX10_wordsWork_1 : decode cX10_wordsWork 1 = .ok (.getfield 23, 3) := by decide +kernel
theorem dX10_wordsWork_4 : decode cX10_wordsWork 4 = .ok (.getfield 90, 3) := by decide +kernel
theorem dX10_wordsWork_7 : decode cX10_wordsWork 7 = .ok (.ifCond .ne 9, 3) := by decide +kernel
theorem dX10_wordsWork_10 : decode cX10_wordsWork 10 = .ok (.aload_n 0, 1) := by decide +kernel
theorem dX10_wordsWork_11 : decode cX10_wordsWork 11 = .ok (.iconst 1, 1) := by decide +kernel
theorem dX10_wordsWork_12 : decode cX10_wordsWork 12 = .ok (.invokevirtual 56, 3) := by decide +kernel
theorem dX10_wordsWork_15 : decode cX10_wordsWork 15 = .ok (.ireturn, 1) := by decide +kernel
theorem dX10_wordsWork_16 : decode cX10_wordsWork 16 = .ok (.iload_n 1, 1) := by decide +kernel
theorem dX10_wordsWork_17 : decode cX10_wordsWork 17 = .ok (.ifCond .lt 9, 3) := by decide +kernel
theorem dX10_wordsWork_20 : decode cX10_wordsWork 20 = .ok (.iload_n 1, 1) := by decide +kernel
theorem dX10_wordsWork_21 : decode cX10_wordsWork 21 = .ok (.bipush 20, 2) := by decide +kernel
theorem dX10_wordsWork_23 : decode cX10_wordsWork 23 = .ok (.if_icmp .lt 9, 3) := by decide +kernel
theorem dX10_wordsWork_26 : decode cX10_wordsWork 26 = .ok (.aload_n 0, 1) := by decide +kernel
theorem dX10_wordsWork_27 : decode cX10_wordsWork 27 = .ok (.iconst 2, 1) := by decide +kernel
theorem dX10_wordsWork_28 : decode cX10_wordsWork 28 = .ok (.invokevirtual 56, 3) := by decide +kernel
theorem dX10_wordsWork_31 : decode cX10_wordsWork 31 = .ok (.ireturn, 1) := by decide +kernel
theorem dX10_wordsWork_32 : decode cX10_wordsWork 32 = .ok (.aload_n 0, 1) := by decide +kernel
theorem dX10_wordsWork_33 : decode cX10_wordsWork 33 = .ok (.aload_n 0, 1) := by decide +kernel
theorem dX10_wordsWork_34 : decode cX10_wordsWork 34 = .ok (.getfield 33, 3) := by decide +kernel
theorem dX10_wordsWork_37 : decode cX10_wordsWork 37 = .ok (.iload_n 1, 1) := by decide +kernel
theorem dX10_wordsWork_38 : decode cX10_wordsWork 38 = .ok (.invokevirtual 202, 3) := by decide +kernel
theorem dX10_wordsWork_41 : decode cX10_wordsWork 41 = .ok (.invokevirtual 145, 3) := by decide +kernel
theorem dX10_wordsWork_44 : decode cX10_wordsWork 44 = .ok (.ireturn, 1) := by decide +kernel
theorem dX10_shortest_0 : decode cX10_shortest 0 = .ok (.aload_n 0, 1) := by decide +kernel
theorem dX10_shortest_1 : decode cX10_shortest 1 = .ok (.getfield 23, 3) := by decide +kernel
theorem dX10_shortest_4 : decode cX10_shortest 4 = .ok (.getfield 90, 3) := by decide +kernel
theorem dX10_shortest_7 : decode cX10_shortest 7 = .ok (.ifCond .ne 9, 3) := by decide +kernel
theorem dX10_shortest_10 : decode cX10_shortest 10 = .ok (.aload_n 0, 1) := by decide +kernel
theorem dX10_shortest_11 : decode cX10_shortest 11 = .ok (.iconst 1, 1) := by decide +kernel
theorem dX10_shortest_12 : decode cX10_shortest 12 = .ok (.invokevirtual 56, 3) := by decide +kernel
theorem dX10_shortest_15 : decode cX10_shortest 15 = .ok (.ireturn, 1) := by decide +kernel
theorem dX10_shortest_16 : decode cX10_shortest 16 = .ok (.iconst 0, 1) := by decide +kernel
theorem dX10_shortest_17 : decode cX10_shortest 17 = .ok (.istore_n 1, 1) := by decide +kernel
theorem dX10_shortest_18 : decode cX10_shortest 18 = .ok (.iload_n 1, 1) := by decide +kernel
theorem dX10_shortest_19 : decode cX10_shortest 19 = .ok (.bipush 20, 2) := by decide +kernel
theorem dX10_shortest_21 : decode cX10_shortest 21 = .ok (.if_icmp .ge 26, 3) := by decide +kernel
theorem dX10_shortest_24 : decode cX10_shortest 24 = .ok (.aload_n 0, 1) := by decide +kernel
theorem dX10_shortest_25 : decode cX10_shortest 25 = .ok (.getfield 33, 3) := by decide +kernel
theorem dX10_shortest_28 : decode cX10_shortest 28 = .ok (.iload_n 1, 1) := by decide +kernel
theorem dX10_shortest_29 : decode cX10_shortest 29 = .ok (.invokevirtual 202, 3) := by decide +kernel
theorem dX10_shortest_32 : decode cX10_shortest 32 = .ok (.ifCond .eq 9, 3) := by decide +kernel
theorem dX10_shortest_35 : decode cX10_shortest 35 = .ok (.aload_n 0, 1) := by decide +kernel
theorem dX10_shortest_36 : decode cX10_shortest 36 = .ok (.iload_n 1, 1) := by decide +kernel
theorem dX10_shortest_37 : decode cX10_shortest 37 = .ok (.invokevirtual 84, 3) := by decide +kernel
theorem dX10_shortest_40 : decode cX10_shortest 40 = .ok (.ireturn, 1) := by decide +kernel
theorem dX10_shortest_41 : decode cX10_shortest 41 = .ok (.iinc 1 1, 3) := by decide +kernel
theorem dX10_shortest_44 : decode cX10_shortest 44 = .ok (.goto (-26), 3) := by decide +kernel
theorem dX10_shortest_47 : decode cX10_shortest 47 = .ok (.aload_n 0, 1) := by decide +kernel
theorem dX10_shortest_48 : decode cX10_shortest 48 = .ok (.bipush (-2), 2) := by decide +kernel
theorem dX10_shortest_50 : decode cX10_shortest 50 = .ok (.invokevirtual 84, 3) := by decide +kernel
theorem dX10_shortest_53 : decode cX10_shortest 53 = .ok (.ireturn, 1) := by decide +kernel
theorem dX10_pairs_0 : decode cX10_pairs 0 = .ok (.aload_n 0, 1) := by decide +kernel
theorem dX10_pairs_1 : decode cX10_pairs 1 = .ok (.getfield 23, 3) := by decide +kernel
theorem dX10_pairs_4 : decode cX10_pairs 4 = .ok (.getfield 90, 3) := by decide +kernel
theorem dX10_pairs_7 : decode cX10_pairs 7 = .ok (.ifCond .ne 9, 3) := by decide +kernel
theorem dX10_pairs_10 : decode cX10_pairs 10 = .ok (.aload_n 0, 1) := by decide +kernel
theorem dX10_pairs_11 : decode cX10_pairs 11 = .ok (.iconst 1, 1) := by decide +kernel
theorem dX10_pairs_12 : decode cX10_pairs 12 = .ok (.invokevirtual 56, 3) := by decide +kernel
theorem dX10_pairs_15 : decode cX10_pairs 15 = .ok (.ireturn, 1) := by decide +kernel
theorem dX10_pairs_16 : decode cX10_pairs 16 = .ok (.aload_n 0, 1) := by decide +kernel
theorem dX10_pairs_17 : decode cX10_pairs 17 = .ok (.getfield 23, 3) := by decide +kernel
theorem dX10_pairs_20 : decode cX10_pairs 20 = .ok (.getfield 94, 3) := by decide +kernel
theorem dX10_pairs_23 : decode cX10_pairs 23 = .ok (.astore_n 1, 1) := by decide +kernel
theorem dX10_pairs_24 : decode cX10_pairs 24 = .ok (.aload_n 0, 1) := by decide +kernel
theorem dX10_pairs_25 : decode cX10_pairs 25 = .ok (.aload_n 1, 1) := by decide +kernel
theorem dX10_pairs_26 : decode cX10_pairs 26 = .ok (.aload_n 1, 1) := by decide +kernel
theorem dX10_pairs_27 : decode cX10_pairs 27 = .ok (.getfield 205, 3) := by decide +kernel
theorem dX10_pairs_30 : decode cX10_pairs 30 = .ok (.invokevirtual 208, 3) := by decide +kernel
theorem dX10_pairs_33 : decode cX10_pairs 33 = .ok (.aload_n 1, 1) := by decide +kernel
theorem dX10_pairs_34 : decode cX10_pairs 34 = .ok (.aload_n 1, 1) := by decide +kernel
theorem dX10_pairs_35 : decode cX10_pairs 35 = .ok (.getfield 205, 3) := by decide +kernel
theorem dX10_pairs_38 : decode cX10_pairs 38 = .ok (.invokevirtual 212, 3) := by decide +kernel
theorem dX10_pairs_41 : decode cX10_pairs 41 = .ok (.invokestatic 215, 3) := by decide +kernel
theorem dX10_pairs_44 : decode cX10_pairs 44 = .ok (.l2i, 1) := by decide +kernel
theorem dX10_pairs_45 : decode cX10_pairs 45 = .ok (.invokevirtual 84, 3) := by decide +kernel
theorem dX10_pairs_48 : decode cX10_pairs 48 = .ok (.ireturn, 1) := by decide +kernel
theorem dX10_count_0 : decode cX10_count 0 = .ok (.aload_n 0, 1) := by decide +kernel
theorem dX10_count_1 : decode cX10_count 1 = .ok (.getfield 23, 3) := by decide +kernel
theorem dX10_count_4 : decode cX10_count 4 = .ok (.getfield 90, 3) := by decide +kernel
theorem dX10_count_7 : decode cX10_count 7 = .ok (.ifCond .ne 10, 3) := by decide +kernel
theorem dX10_count_10 : decode cX10_count 10 = .ok (.aload_n 0, 1) := by decide +kernel
theorem dX10_count_11 : decode cX10_count 11 = .ok (.iconst 1, 1) := by decide +kernel
theorem dX10_count_12 : decode cX10_count 12 = .ok (.invokevirtual 56, 3) := by decide +kernel
theorem dX10_count_15 : decode cX10_count 15 = .ok (.i2l, 1) := by decide +kernel
theorem dX10_count_16 : decode cX10_count 16 = .ok (.lreturn, 1) := by decide +kernel
theorem dX10_count_17 : decode cX10_count 17 = .ok (.iload_n 1, 1) := by decide +kernel
theorem dX10_count_18 : decode cX10_count 18 = .ok (.aload_n 0, 1) := by decide +kernel
theorem dX10_count_19 : decode cX10_count 19 = .ok (.getfield 23, 3) := by decide +kernel
theorem dX10_count_22 : decode cX10_count 22 = .ok (.getfield 94, 3) := by decide +kernel
theorem dX10_count_25 : decode cX10_count 25 = .ok (.getfield 110, 3) := by decide +kernel
theorem dX10_count_28 : decode cX10_count 28 = .ok (.if_icmp .lt 10, 3) := by decide +kernel
theorem dX10_count_31 : decode cX10_count 31 = .ok (.iload_n 1, 1) := by decide +kernel
theorem dX10_count_32 : decode cX10_count 32 = .ok (.sipush 200, 3) := by decide +kernel
theorem dX10_count_35 : decode cX10_count 35 = .ok (.if_icmp .le 10, 3) := by decide +kernel
theorem dX10_count_38 : decode cX10_count 38 = .ok (.aload_n 0, 1) := by decide +kernel
theorem dX10_count_39 : decode cX10_count 39 = .ok (.iconst 2, 1) := by decide +kernel
theorem dX10_count_40 : decode cX10_count 40 = .ok (.invokevirtual 56, 3) := by decide +kernel
theorem dX10_count_43 : decode cX10_count 43 = .ok (.i2l, 1) := by decide +kernel
theorem dX10_count_44 : decode cX10_count 44 = .ok (.lreturn, 1) := by decide +kernel
theorem dX10_count_45 : decode cX10_count 45 = .ok (.aload_n 0, 1) := by decide +kernel
theorem dX10_count_46 : decode cX10_count 46 = .ok (.iconst 0, 1) := by decide +kernel
theorem dX10_count_47 : decode cX10_count 47 = .ok (.putfield 87, 3) := by decide +kernel
theorem dX10_count_50 : decode cX10_count 50 = .ok (.iload_n 2, 1) := by decide +kernel
theorem dX10_count_51 : decode cX10_count 51 = .ok (.ifCond .eq 17, 3) := by decide +kernel
theorem dX10_count_54 : decode cX10_count 54 = .ok (.aload_n 0, 1) := by decide +kernel
theorem dX10_count_55 : decode cX10_count 55 = .ok (.getfield 23, 3) := by decide +kernel
theorem dX10_count_58 : decode cX10_count 58 = .ok (.getfield 94, 3) := by decide +kernel
theorem dX10_count_61 : decode cX10_count 61 = .ok (.iload_n 1, 1) := by decide +kernel
theorem dX10_count_62 : decode cX10_count 62 = .ok (.invokevirtual 212, 3) := by decide +kernel
theorem dX10_count_65 : decode cX10_count 65 = .ok (.goto 14, 3) := by decide +kernel
theorem dX10_count_68 : decode cX10_count 68 = .ok (.aload_n 0, 1) := by decide +kernel
theorem dX10_count_69 : decode cX10_count 69 = .ok (.getfield 23, 3) := by decide +kernel
theorem dX10_count_72 : decode cX10_count 72 = .ok (.getfield 94, 3) := by decide +kernel
theorem dX10_count_75 : decode cX10_count 75 = .ok (.iload_n 1, 1) := by decide +kernel
theorem dX10_count_76 : decode cX10_count 76 = .ok (.invokevirtual 208, 3) := by decide +kernel
theorem dX10_count_79 : decode cX10_count 79 = .ok (.lreturn, 1) := by decide +kernel
theorem dX10_most_0 : decode cX10_most 0 = .ok (.aload_n 0, 1) := by decide +kernel
theorem dX10_most_1 : decode cX10_most 1 = .ok (.getfield 23, 3) := by decide +kernel
theorem dX10_most_4 : decode cX10_most 4 = .ok (.getfield 90, 3) := by decide +kernel
theorem dX10_most_7 : decode cX10_most 7 = .ok (.ifCond .ne 9, 3) := by decide +kernel
theorem dX10_most_10 : decode cX10_most 10 = .ok (.aload_n 0, 1) := by decide +kernel
theorem dX10_most_11 : decode cX10_most 11 = .ok (.iconst 1, 1) := by decide +kernel
theorem dX10_most_12 : decode cX10_most 12 = .ok (.invokevirtual 56, 3) := by decide +kernel
theorem dX10_most_15 : decode cX10_most 15 = .ok (.ireturn, 1) := by decide +kernel
theorem dX10_most_16 : decode cX10_most 16 = .ok (.aload_n 0, 1) := by decide +kernel
theorem dX10_most_17 : decode cX10_most 17 = .ok (.aload_n 0, 1) := by decide +kernel
theorem dX10_most_18 : decode cX10_most 18 = .ok (.getfield 33, 3) := by decide +kernel
theorem dX10_most_21 : decode cX10_most 21 = .ok (.invokevirtual 227, 3) := by decide +kernel
theorem dX10_most_24 : decode cX10_most 24 = .ok (.invokevirtual 84, 3) := by decide +kernel
theorem dX10_most_27 : decode cX10_most 27 = .ok (.ireturn, 1) := by decide +kernel
theorem dX10_noEvening_0 : decode cX10_noEvening 0 = .ok (.iload_n 1, 1) := by decide +kernel
theorem dX10_noEvening_1 : decode cX10_noEvening 1 = .ok (.ifCond .lt 17, 3) := by decide +kernel
theorem dX10_noEvening_4 : decode cX10_noEvening 4 = .ok (.iload_n 1, 1) := by decide +kernel
theorem dX10_noEvening_5 : decode cX10_noEvening 5 = .ok (.aload_n 0, 1) := by decide +kernel
theorem dX10_noEvening_6 : decode cX10_noEvening 6 = .ok (.getfield 23, 3) := by decide +kernel
theorem dX10_noEvening_9 : decode cX10_noEvening 9 = .ok (.getfield 233, 3) := by decide +kernel
theorem dX10_noEvening_12 : decode cX10_noEvening 12 = .ok (.getfield 239, 3) := by decide +kernel
theorem dX10_noEvening_15 : decode cX10_noEvening 15 = .ok (.if_icmp .lt 7, 3) := by decide +kernel
theorem dX10_noEvening_18 : decode cX10_noEvening 18 = .ok (.iconst 1, 1) := by decide +kernel
theorem dX10_noEvening_19 : decode cX10_noEvening 19 = .ok (.goto 4, 3) := by decide +kernel
theorem dX10_noEvening_22 : decode cX10_noEvening 22 = .ok (.iconst 0, 1) := by decide +kernel
theorem dX10_noEvening_23 : decode cX10_noEvening 23 = .ok (.ireturn, 1) := by decide +kernel
theorem dX10_judge_0 : decode cX10_judge 0 = .ok (.aload_n 0, 1) := by decide +kernel
theorem dX10_judge_1 : decode cX10_judge 1 = .ok (.iload_n 1, 1) := by decide +kernel
theorem dX10_judge_2 : decode cX10_judge 2 = .ok (.invokevirtual 230, 3) := by decide +kernel
theorem dX10_judge_5 : decode cX10_judge 5 = .ok (.ifCond .eq 9, 3) := by decide +kernel
theorem dX10_judge_8 : decode cX10_judge 8 = .ok (.aload_n 0, 1) := by decide +kernel
theorem dX10_judge_9 : decode cX10_judge 9 = .ok (.iconst 1, 1) := by decide +kernel
theorem dX10_judge_10 : decode cX10_judge 10 = .ok (.invokevirtual 56, 3) := by decide +kernel
theorem dX10_judge_13 : decode cX10_judge 13 = .ok (.ireturn, 1) := by decide +kernel
theorem dX10_judge_14 : decode cX10_judge 14 = .ok (.aload_n 0, 1) := by decide +kernel
theorem dX10_judge_15 : decode cX10_judge 15 = .ok (.aload_n 0, 1) := by decide +kernel
theorem dX10_judge_16 : decode cX10_judge 16 = .ok (.aload_n 0, 1) := by decide +kernel
theorem dX10_judge_17 : decode cX10_judge 17 = .ok (.getfield 23, 3) := by decide +kernel
theorem dX10_judge_20 : decode cX10_judge 20 = .ok (.getfield 233, 3) := by decide +kernel
theorem dX10_judge_23 : decode cX10_judge 23 = .ok (.getfield 237, 3) := by decide +kernel
theorem dX10_judge_26 : decode cX10_judge 26 = .ok (.iload_n 1, 1) := by decide +kernel
theorem dX10_judge_27 : decode cX10_judge 27 = .ok (.iaload, 1) := by decide +kernel
theorem dX10_judge_28 : decode cX10_judge 28 = .ok (.aload_n 0, 1) := by decide +kernel
theorem dX10_judge_29 : decode cX10_judge 29 = .ok (.getfield 23, 3) := by decide +kernel
theorem dX10_judge_32 : decode cX10_judge 32 = .ok (.getfield 233, 3) := by decide +kernel
theorem dX10_judge_35 : decode cX10_judge 35 = .ok (.getfield 238, 3) := by decide +kernel
theorem dX10_judge_38 : decode cX10_judge 38 = .ok (.iload_n 1, 1) := by decide +kernel
theorem dX10_judge_39 : decode cX10_judge 39 = .ok (.iaload, 1) := by decide +kernel
theorem dX10_judge_40 : decode cX10_judge 40 = .ok (.invokevirtual 141, 3) := by decide +kernel
theorem dX10_judge_43 : decode cX10_judge 43 = .ok (.invokevirtual 145, 3) := by decide +kernel
theorem dX10_judge_46 : decode cX10_judge 46 = .ok (.ireturn, 1) := by decide +kernel
theorem dX10_evening_0 : decode cX10_evening 0 = .ok (.aload_n 0, 1) := by decide +kernel
theorem dX10_evening_1 : decode cX10_evening 1 = .ok (.iload_n 1, 1) := by decide +kernel
theorem dX10_evening_2 : decode cX10_evening 2 = .ok (.invokevirtual 230, 3) := by decide +kernel
theorem dX10_evening_5 : decode cX10_evening 5 = .ok (.ifCond .eq 9, 3) := by decide +kernel
theorem dX10_evening_8 : decode cX10_evening 8 = .ok (.aload_n 0, 1) := by decide +kernel
theorem dX10_evening_9 : decode cX10_evening 9 = .ok (.iconst 1, 1) := by decide +kernel
theorem dX10_evening_10 : decode cX10_evening 10 = .ok (.invokevirtual 56, 3) := by decide +kernel
theorem dX10_evening_13 : decode cX10_evening 13 = .ok (.ireturn, 1) := by decide +kernel
theorem dX10_evening_14 : decode cX10_evening 14 = .ok (.aload_n 0, 1) := by decide +kernel
theorem dX10_evening_15 : decode cX10_evening 15 = .ok (.iload_n 2, 1) := by decide +kernel
theorem dX10_evening_16 : decode cX10_evening 16 = .ok (.ifCond .eq 18, 3) := by decide +kernel
theorem dX10_evening_19 : decode cX10_evening 19 = .ok (.aload_n 0, 1) := by decide +kernel
theorem dX10_evening_20 : decode cX10_evening 20 = .ok (.getfield 23, 3) := by decide +kernel
theorem dX10_evening_23 : decode cX10_evening 23 = .ok (.getfield 233, 3) := by decide +kernel
theorem dX10_evening_26 : decode cX10_evening 26 = .ok (.getfield 238, 3) := by decide +kernel
theorem dX10_evening_29 : decode cX10_evening 29 = .ok (.iload_n 1, 1) := by decide +kernel
theorem dX10_evening_30 : decode cX10_evening 30 = .ok (.iaload, 1) := by decide +kernel
theorem dX10_evening_31 : decode cX10_evening 31 = .ok (.goto 15, 3) := by decide +kernel
theorem dX10_evening_34 : decode cX10_evening 34 = .ok (.aload_n 0, 1) := by decide +kernel
theorem dX10_evening_35 : decode cX10_evening 35 = .ok (.getfield 23, 3) := by decide +kernel
theorem dX10_evening_38 : decode cX10_evening 38 = .ok (.getfield 233, 3) := by decide +kernel
theorem dX10_evening_41 : decode cX10_evening 41 = .ok (.getfield 237, 3) := by decide +kernel
theorem dX10_evening_44 : decode cX10_evening 44 = .ok (.iload_n 1, 1) := by decide +kernel
theorem dX10_evening_45 : decode cX10_evening 45 = .ok (.iaload, 1) := by decide +kernel
theorem dX10_evening_46 : decode cX10_evening 46 = .ok (.invokevirtual 84, 3) := by decide +kernel
theorem dX10_evening_49 : decode cX10_evening 49 = .ok (.ireturn, 1) := by decide +kernel
theorem dX10_isAgreed_0 : decode cX10_isAgreed 0 = .ok (.aload_n 1, 1) := by decide +kernel
theorem dX10_isAgreed_1 : decode cX10_isAgreed 1 = .ok (.aload_n 0, 1) := by decide +kernel
theorem dX10_isAgreed_2 : decode cX10_isAgreed 2 = .ok (.getfield 23, 3) := by decide +kernel
theorem dX10_isAgreed_5 : decode cX10_isAgreed 5 = .ok (.getfield 233, 3) := by decide +kernel
theorem dX10_isAgreed_8 : decode cX10_isAgreed 8 = .ok (.getfield 237, 3) := by decide +kernel
theorem dX10_isAgreed_11 : decode cX10_isAgreed 11 = .ok (.iload_n 2, 1) := by decide +kernel
theorem dX10_isAgreed_12 : decode cX10_isAgreed 12 = .ok (.iaload, 1) := by decide +kernel
theorem dX10_isAgreed_13 : decode cX10_isAgreed 13 = .ok (.iaload, 1) := by decide +kernel
theorem dX10_isAgreed_14 : decode cX10_isAgreed 14 = .ok (.aload_n 0, 1) := by decide +kernel
theorem dX10_isAgreed_15 : decode cX10_isAgreed 15 = .ok (.getfield 23, 3) := by decide +kernel
theorem dX10_isAgreed_18 : decode cX10_isAgreed 18 = .ok (.getfield 233, 3) := by decide +kernel
theorem dX10_isAgreed_21 : decode cX10_isAgreed 21 = .ok (.getfield 238, 3) := by decide +kernel
theorem dX10_isAgreed_24 : decode cX10_isAgreed 24 = .ok (.iload_n 2, 1) := by decide +kernel
theorem dX10_isAgreed_25 : decode cX10_isAgreed 25 = .ok (.iaload, 1) := by decide +kernel
theorem dX10_isAgreed_26 : decode cX10_isAgreed 26 = .ok (.if_icmp .ne 7, 3) := by decide +kernel
theorem dX10_isAgreed_29 : decode cX10_isAgreed 29 = .ok (.iconst 1, 1) := by decide +kernel
theorem dX10_isAgreed_30 : decode cX10_isAgreed 30 = .ok (.goto 4, 3) := by decide +kernel
theorem dX10_isAgreed_33 : decode cX10_isAgreed 33 = .ok (.iconst 0, 1) := by decide +kernel
theorem dX10_isAgreed_34 : decode cX10_isAgreed 34 = .ok (.ireturn, 1) := by decide +kernel
set_option maxHeartbeats 4000000 in
set_option maxRecDepth 100000 in
theorem sX10_hand {l : Launch} {D : va_G} {cA : Nat → ClassId} {base : Nat} {sA : Nat → Nat} {r0 : Nat} {x1 : Int32} {x2 : Int32} {h hE : Zh} {rE : Int32} (hf : fX10_hand r0 x1 x2 h = some (rE, hE)) : zC l yX10_hand cX10_hand 3 (some .int) 1 21 D cA base sA [.ref (base + r0), .int x1, .int x2] h (some (.int rE)) hE := by
  refine g_entry RX10 (by decide) rfl (Nat.le_of_ble_eq_true rfl) ?_
  intro p e s m args below meth c X hr
  unfold fX10_hand at hf
  have hf := zlet_n (x := h) rfl hf
  show zG p l e { frames := 1, cells := 0, slots := 0, locals := 21 } s m args below meth c (MQ below (zQ D cA base h hE (some (.int rE))) args s 0 0 (zA base)) 3 D cA base h 0 [(0, .ref (base + r0)), (1, .int x1), (2, .int x2)] [] h
  refine g_aload_n X 0 dX10_hand_0 rfl ?_
  refine g_iload_n X 1 dX10_hand_1 rfl ?_
  obtain ⟨hk1, hf⟩ := zite hf
  obtain ⟨v3, h2, hch2, hf⟩ := zc2_e hf
  refine g_callV X 1 (sX10_noHand hch2) zf10 hk1 ydX10_noHand w_ml_RX10_106 w_instanceMethod_X10_noHand w_sel_X10_noHand w_ini_RX10 w_code_X10_noHand (by decide) rfl (st := []) rfl rfl (Nat.le_of_ble_eq_true rfl) dX10_hand_2 ?_
  refine g_if_ne X 26 dX10_hand_5 (by decide) (fun hq => ?_) (fun hq => ?_)
  · have hf := zneg hq hf
    refine g_aload_n X 0 dX10_hand_26 rfl ?_
    refine g_iconst X (v := 1) dX10_hand_27 (by decide) ?_
    obtain ⟨v5, h4, hch4, hf⟩ := zc2_e hf
    refine g_callV X 1 (sX10_refuse hch4) zf10 hk1 ydX10_refuse w_ml_RX10_56 w_instanceMethod_X10_refuse w_sel_X10_refuse w_ini_RX10 w_code_X10_refuse (by decide) rfl (st := []) rfl rfl (Nat.le_of_ble_eq_true rfl) dX10_hand_28 ?_
    obtain ⟨rfl, rfl⟩ := zsm hf
    exact g_iret X hr dX10_hand_31
  · have hf := zpos hq hf
    refine g_iload_n X 2 dX10_hand_8 rfl ?_
    refine g_if_lt X 26 dX10_hand_9 (by decide) (fun hq => ?_) (fun hq => ?_)
    · have hf := zpos hq hf
      refine g_aload_n X 0 dX10_hand_26 rfl ?_
      refine g_iconst X (v := 1) dX10_hand_27 (by decide) ?_
      obtain ⟨v7, h6, hch6, hf⟩ := zc2_e hf
      refine g_callV X 1 (sX10_refuse hch6) zf10 hk1 ydX10_refuse w_ml_RX10_56 w_instanceMethod_X10_refuse w_sel_X10_refuse w_ini_RX10 w_code_X10_refuse (by decide) rfl (st := []) rfl rfl (Nat.le_of_ble_eq_true rfl) dX10_hand_28 ?_
      obtain ⟨rfl, rfl⟩ := zsm hf
      exact g_iret X hr dX10_hand_31
    · have hf := zneg hq hf
      refine g_iload_n X 2 dX10_hand_12 rfl ?_
      refine g_aload_n X 0 dX10_hand_13 rfl ?_
      obtain ⟨r_8, hr_8, hf⟩ := zbd hf
      refine g_get X zf10 hk1 3 (by decide) w_f_RX10_23 rfl (zfv_r hr_8 rfl) dX10_hand_14 ?_
      obtain ⟨hk9, hf⟩ := zite hf
      obtain ⟨r_10, hr_10, hf⟩ := zbd hf
      refine g_get X zf9 hk9 1 (by decide) w_f_RX10_94 rfl (zfv_r hr_10 rfl) dX10_hand_17 ?_
      obtain ⟨hk11, hf⟩ := zite hf
      refine g_get X zf0 hk11 3 (by decide) w_f_RX10_110 rfl rfl dX10_hand_20 ?_
      refine g_icmp_lt X 32 dX10_hand_23 (by decide) (fun hq => ?_) (fun hq => ?_)
      · have hf := zpos hq hf
        refine g_aload_n X 0 dX10_hand_32 rfl ?_
        refine g_aload_n X 0 dX10_hand_33 rfl ?_
        obtain ⟨r_12, hr_12, hf⟩ := zbd hf
        refine g_get X zf10 hk1 5 (by decide) w_f_RX10_33 rfl (zfv_r hr_12 rfl) dX10_hand_34 ?_
        obtain ⟨hk13, hf⟩ := zite hf
        obtain ⟨r_14, hr_14, hf⟩ := zbd hf
        refine g_get X zf4 hk13 0 (by decide) w_f_RX10_113 rfl (zfv_r hr_14 rfl) dX10_hand_37 ?_
        refine g_iload_n X 1 dX10_hand_40 rfl ?_
        obtain ⟨hk15, hf⟩ := zite hf
        obtain ⟨hi16, hf⟩ := zite hf
        refine g_iald X hk15 hi16 dX10_hand_41 ?_
        refine g_iload_n X 2 dX10_hand_42 rfl ?_
        obtain ⟨v18, h17, hch17, hf⟩ := zc2_e hf
        refine g_callS X 2 (sX0_cardAt hch17) ysX0_cardAt w_ml_RX10_116 w_static_X0_cardAt w_ini_RX0 w_code_X0_cardAt (by decide) rfl (st := [.ref (base + r0)]) rfl rfl (Nat.le_of_ble_eq_true rfl) dX10_hand_43 ?_
        obtain ⟨v20, h19, hch19, hf⟩ := zc2_e hf
        refine g_callV X 1 (sX10_answer hch19) zf10 hk1 ydX10_answer w_ml_RX10_84 w_instanceMethod_X10_answer w_sel_X10_answer w_ini_RX10 w_code_X10_answer (by decide) rfl (st := []) rfl rfl (Nat.le_of_ble_eq_true rfl) dX10_hand_46 ?_
        obtain ⟨rfl, rfl⟩ := zsm hf
        exact g_iret X hr dX10_hand_49
      · have hf := zneg hq hf
        refine g_aload_n X 0 dX10_hand_26 rfl ?_
        refine g_iconst X (v := 1) dX10_hand_27 (by decide) ?_
        obtain ⟨v22, h21, hch21, hf⟩ := zc2_e hf
        refine g_callV X 1 (sX10_refuse hch21) zf10 hk1 ydX10_refuse w_ml_RX10_56 w_instanceMethod_X10_refuse w_sel_X10_refuse w_ini_RX10 w_code_X10_refuse (by decide) rfl (st := []) rfl rfl (Nat.le_of_ble_eq_true rfl) dX10_hand_28 ?_
        obtain ⟨rfl, rfl⟩ := zsm hf
        exact g_iret X hr dX10_hand_31

set_option maxHeartbeats 4000000 in
set_option maxRecDepth 100000 in
theorem sX10_handOf {l : Launch} {D : va_G} {cA : Nat → ClassId} {base : Nat} {sA : Nat → Nat} {r0 : Nat} {x1 : Int32} {x2 : Int32} {x3 : Int32} {x4 : Int32} {x5 : Int32} {h hE : Zh} {rE : Int32} (hf : fX10_handOf r0 x1 x2 x3 x4 x5 h = some (rE, hE)) : zC l yX10_handOf cX10_handOf 6 (some .int) 3 70 D cA base sA [.ref (base + r0), .int x1, .int x2, .int x3, .int x4, .int x5] h (some (.int rE)) hE := by
  refine g_entry RX10 (by decide) rfl (Nat.le_of_ble_eq_true rfl) ?_
  intro p e s m args below meth c X hr
  unfold fX10_handOf at hf
  have hf := zlet_n (x := h) rfl hf
  show zG p l e { frames := 3, cells := 0, slots := 0, locals := 70 } s m args below meth c (MQ below (zQ D cA base h hE (some (.int rE))) args s 0 0 (zA base)) 6 D cA base h 0 [(0, .ref (base + r0)), (1, .int x1), (2, .int x2), (3, .int x3), (4, .int x4), (5, .int x5)] [] h
  refine g_aload_n X 0 dX10_handOf_0 rfl ?_
  obtain ⟨hk1, hf⟩ := zite hf
  obtain ⟨r_2, hr_2, hf⟩ := zbd hf
  refine g_get X zf10 hk1 3 (by decide) w_f_RX10_23 rfl (zfv_r hr_2 rfl) dX10_handOf_1 ?_
  obtain ⟨hk3, hf⟩ := zite hf
  refine g_get X zf9 hk3 0 (by decide) w_f_RX10_90 rfl rfl dX10_handOf_4 ?_
  refine g_if_ne X 16 dX10_handOf_7 (by decide) (fun hq => ?_) (fun hq => ?_)
  · have hf := zneg hq hf
    refine g_aload_n X 0 dX10_handOf_16 rfl ?_
    obtain ⟨r_4, hr_4, hf⟩ := zbd hf
    refine g_get X zf10 hk1 11 (by decide) w_f_RX10_44 rfl (zfv_r hr_4 rfl) dX10_handOf_17 ?_
    refine g_iconst X (v := 0) dX10_handOf_20 (by decide) ?_
    refine g_iload_n X 1 dX10_handOf_21 rfl ?_
    obtain ⟨hk5, hf⟩ := zite hf
    obtain ⟨hi6, hf⟩ := zite hf
    refine g_iast X hk5 hi6 dX10_handOf_22 ?_
    refine g_hp (fun h7 eh7 => ?_)
    have hf := zlet_n eh7 hf
    refine g_aload_n X 0 dX10_handOf_23 rfl ?_
    obtain ⟨r_8, hr_8, hf⟩ := zbd hf
    refine g_get X zf10 hk1 11 (by decide) w_f_RX10_44 rfl (zfv_r hr_8 rfl) dX10_handOf_24 ?_
    refine g_iconst X (v := 1) dX10_handOf_27 (by decide) ?_
    refine g_iload_n X 2 dX10_handOf_28 rfl ?_
    obtain ⟨hk9, hf⟩ := zite hf
    obtain ⟨hi10, hf⟩ := zite hf
    refine g_iast X hk9 hi10 dX10_handOf_29 ?_
    refine g_hp (fun h11 eh11 => ?_)
    have hf := zlet_n eh11 hf
    refine g_aload_n X 0 dX10_handOf_30 rfl ?_
    obtain ⟨r_12, hr_12, hf⟩ := zbd hf
    refine g_get X zf10 hk1 11 (by decide) w_f_RX10_44 rfl (zfv_r hr_12 rfl) dX10_handOf_31 ?_
    refine g_iconst X (v := 2) dX10_handOf_34 (by decide) ?_
    refine g_iload_n X 3 dX10_handOf_35 rfl ?_
    obtain ⟨hk13, hf⟩ := zite hf
    obtain ⟨hi14, hf⟩ := zite hf
    refine g_iast X hk13 hi14 dX10_handOf_36 ?_
    refine g_hp (fun h15 eh15 => ?_)
    have hf := zlet_n eh15 hf
    refine g_aload_n X 0 dX10_handOf_37 rfl ?_
    obtain ⟨r_16, hr_16, hf⟩ := zbd hf
    refine g_get X zf10 hk1 11 (by decide) w_f_RX10_44 rfl (zfv_r hr_16 rfl) dX10_handOf_38 ?_
    refine g_iconst X (v := 3) dX10_handOf_41 (by decide) ?_
    refine g_iload X 4 dX10_handOf_42 rfl ?_
    obtain ⟨hk17, hf⟩ := zite hf
    obtain ⟨hi18, hf⟩ := zite hf
    refine g_iast X hk17 hi18 dX10_handOf_44 ?_
    refine g_hp (fun h19 eh19 => ?_)
    have hf := zlet_n eh19 hf
    refine g_aload_n X 0 dX10_handOf_45 rfl ?_
    obtain ⟨r_20, hr_20, hf⟩ := zbd hf
    refine g_get X zf10 hk1 11 (by decide) w_f_RX10_44 rfl (zfv_r hr_20 rfl) dX10_handOf_46 ?_
    refine g_iconst X (v := 4) dX10_handOf_49 (by decide) ?_
    refine g_iload X 5 dX10_handOf_50 rfl ?_
    obtain ⟨hk21, hf⟩ := zite hf
    obtain ⟨hi22, hf⟩ := zite hf
    refine g_iast X hk21 hi22 dX10_handOf_52 ?_
    refine g_hp (fun h23 eh23 => ?_)
    have hf := zlet_n eh23 hf
    refine g_aload_n X 0 dX10_handOf_53 rfl ?_
    obtain ⟨r_24, hr_24, hf⟩ := zbd hf
    refine g_get X zf10 hk1 3 (by decide) w_f_RX10_23 rfl (zfv_r hr_24 rfl) dX10_handOf_54 ?_
    obtain ⟨hk25, hf⟩ := zite hf
    obtain ⟨r_26, hr_26, hf⟩ := zbd hf
    refine g_get X zf9 hk25 1 (by decide) w_f_RX10_94 rfl (zfv_r hr_26 rfl) dX10_handOf_57 ?_
    refine g_aload_n X 0 dX10_handOf_60 rfl ?_
    obtain ⟨r_27, hr_27, hf⟩ := zbd hf
    refine g_get X zf10 hk1 11 (by decide) w_f_RX10_44 rfl (zfv_r hr_27 rfl) dX10_handOf_61 ?_
    obtain ⟨hk28, hf⟩ := zite hf
    obtain ⟨v30, h29, hch29, hf⟩ := zc2_e hf
    refine g_callV X 1 (sX0_isHand hch29) zf0 hk28 ydX0_isHand w_ml_RX10_120 w_instanceMethod_X0_isHand w_sel_X0_isHand w_ini_RX0 w_code_X0_isHand (by decide) rfl (st := []) rfl rfl (Nat.le_of_ble_eq_true rfl) dX10_handOf_64 ?_
    refine g_if_ne X 76 dX10_handOf_67 (by decide) (fun hq => ?_) (fun hq => ?_)
    · have hf := zneg hq hf
      refine g_aload_n X 0 dX10_handOf_76 rfl ?_
      refine g_aload_n X 0 dX10_handOf_77 rfl ?_
      obtain ⟨r_31, hr_31, hf⟩ := zbd hf
      refine g_get X zf10 hk1 3 (by decide) w_f_RX10_23 rfl (zfv_r hr_31 rfl) dX10_handOf_78 ?_
      obtain ⟨hk32, hf⟩ := zite hf
      obtain ⟨r_33, hr_33, hf⟩ := zbd hf
      refine g_get X zf9 hk32 1 (by decide) w_f_RX10_94 rfl (zfv_r hr_33 rfl) dX10_handOf_81 ?_
      refine g_aload_n X 0 dX10_handOf_84 rfl ?_
      obtain ⟨r_34, hr_34, hf⟩ := zbd hf
      refine g_get X zf10 hk1 11 (by decide) w_f_RX10_44 rfl (zfv_r hr_34 rfl) dX10_handOf_85 ?_
      obtain ⟨hk35, hf⟩ := zite hf
      obtain ⟨v37, h36, hch36, hf⟩ := zc2_e hf
      refine g_callV X 1 (sX0_handNumber hch36) zf0 hk35 ydX0_handNumber w_ml_RX10_124 w_instanceMethod_X0_handNumber w_sel_X0_handNumber w_ini_RX0 w_code_X0_handNumber (by decide) rfl (st := [.ref (base + r0)]) rfl rfl (Nat.le_of_ble_eq_true rfl) dX10_handOf_88 ?_
      obtain ⟨v39, h38, hch38, hf⟩ := zc2_e hf
      refine g_callV X 1 (sX10_answer hch38) zf10 hk1 ydX10_answer w_ml_RX10_84 w_instanceMethod_X10_answer w_sel_X10_answer w_ini_RX10 w_code_X10_answer (by decide) rfl (st := []) rfl rfl (Nat.le_of_ble_eq_true rfl) dX10_handOf_91 ?_
      obtain ⟨rfl, rfl⟩ := zsm hf
      exact g_iret X hr dX10_handOf_94
    · have hf := zpos hq hf
      refine g_aload_n X 0 dX10_handOf_70 rfl ?_
      refine g_iconst X (v := 2) dX10_handOf_71 (by decide) ?_
      obtain ⟨v41, h40, hch40, hf⟩ := zc2_e hf
      refine g_callV X 1 (sX10_refuse hch40) zf10 hk1 ydX10_refuse w_ml_RX10_56 w_instanceMethod_X10_refuse w_sel_X10_refuse w_ini_RX10 w_code_X10_refuse (by decide) rfl (st := []) rfl rfl (Nat.le_of_ble_eq_true rfl) dX10_handOf_72 ?_
      obtain ⟨rfl, rfl⟩ := zsm hf
      exact g_iret X hr dX10_handOf_75
  · have hf := zpos hq hf
    refine g_aload_n X 0 dX10_handOf_10 rfl ?_
    refine g_iconst X (v := 1) dX10_handOf_11 (by decide) ?_
    obtain ⟨v43, h42, hch42, hf⟩ := zc2_e hf
    refine g_callV X 1 (sX10_refuse hch42) zf10 hk1 ydX10_refuse w_ml_RX10_56 w_instanceMethod_X10_refuse w_sel_X10_refuse w_ini_RX10 w_code_X10_refuse (by decide) rfl (st := []) rfl rfl (Nat.le_of_ble_eq_true rfl) dX10_handOf_12 ?_
    obtain ⟨rfl, rfl⟩ := zsm hf
    exact g_iret X hr dX10_handOf_15

set_option maxHeartbeats 4000000 in
set_option maxRecDepth 100000 in
theorem sX10_noRow {l : Launch} {D : va_G} {cA : Nat → ClassId} {base : Nat} {sA : Nat → Nat} {r0 : Nat} {x1 : Int32} {h hE : Zh} {rE : Int32} (hf : fX10_noRow r0 x1 h = some (rE, hE)) : zC l yX10_noRow cX10_noRow 2 (some .boolean) 0 0 D cA base sA [.ref (base + r0), .int x1] h (some (.int rE)) hE := by
  refine g_entry RX10 (by decide) rfl (Nat.le_of_ble_eq_true rfl) ?_
  intro p e s m args below meth c X hr
  unfold fX10_noRow at hf
  have hf := zlet_n (x := h) rfl hf
  show zG p l e { frames := 0, cells := 0, slots := 0, locals := 0 } s m args below meth c (MQ below (zQ D cA base h hE (some (.int rE))) args s 0 0 (zA base)) 2 D cA base h 0 [(0, .ref (base + r0)), (1, .int x1)] [] h
  refine g_iload_n X 1 dX10_noRow_0 rfl ?_
  refine g_if_lt X 18 dX10_noRow_1 (by decide) (fun hq => ?_) (fun hq => ?_)
  · have hf := zpos hq hf
    refine g_iconst X (v := 1) dX10_noRow_18 (by decide) ?_
    refine g_goto X 23 dX10_noRow_19 (by decide) ?_
    obtain ⟨rfl, rfl⟩ := zsm hf
    exact g_zret X (Or.inr rfl) hr dX10_noRow_23
  · have hf := zneg hq hf
    refine g_iload_n X 1 dX10_noRow_4 rfl ?_
    refine g_aload_n X 0 dX10_noRow_5 rfl ?_
    obtain ⟨hk1, hf⟩ := zite hf
    obtain ⟨r_2, hr_2, hf⟩ := zbd hf
    refine g_get X zf10 hk1 3 (by decide) w_f_RX10_23 rfl (zfv_r hr_2 rfl) dX10_noRow_6 ?_
    obtain ⟨hk3, hf⟩ := zite hf
    obtain ⟨r_4, hr_4, hf⟩ := zbd hf
    refine g_get X zf9 hk3 1 (by decide) w_f_RX10_94 rfl (zfv_r hr_4 rfl) dX10_noRow_9 ?_
    obtain ⟨hk5, hf⟩ := zite hf
    refine g_get X zf0 hk5 10 (by decide) w_f_RX10_103 rfl rfl dX10_noRow_12 ?_
    refine g_icmp_lt X 22 dX10_noRow_15 (by decide) (fun hq => ?_) (fun hq => ?_)
    · have hf := zpos hq hf
      refine g_iconst X (v := 0) dX10_noRow_22 (by decide) ?_
      obtain ⟨rfl, rfl⟩ := zsm hf
      exact g_zret X (Or.inl rfl) hr dX10_noRow_23
    · have hf := zneg hq hf
      refine g_iconst X (v := 1) dX10_noRow_18 (by decide) ?_
      refine g_goto X 23 dX10_noRow_19 (by decide) ?_
      obtain ⟨rfl, rfl⟩ := zsm hf
      exact g_zret X (Or.inr rfl) hr dX10_noRow_23

set_option maxHeartbeats 4000000 in
set_option maxRecDepth 100000 in
theorem sX10_row {l : Launch} {D : va_G} {cA : Nat → ClassId} {base : Nat} {sA : Nat → Nat} {r0 : Nat} {x1 : Int32} {x2 : Int32} {h hE : Zh} {rE : Int32} (hf : fX10_row r0 x1 x2 h = some (rE, hE)) : zC l yX10_row cX10_row 3 (some .int) 2 49 D cA base sA [.ref (base + r0), .int x1, .int x2] h (some (.int rE)) hE := by
  refine g_entry RX10 (by decide) rfl (Nat.le_of_ble_eq_true rfl) ?_
  intro p e s m args below meth c X hr
  unfold fX10_row at hf
  have hf := zlet_n (x := h) rfl hf
  show zG p l e { frames := 2, cells := 0, slots := 0, locals := 49 } s m args below meth c (MQ below (zQ D cA base h hE (some (.int rE))) args s 0 0 (zA base)) 3 D cA base h 0 [(0, .ref (base + r0)), (1, .int x1), (2, .int x2)] [] h
  refine g_aload_n X 0 dX10_row_0 rfl ?_
  refine g_iload_n X 1 dX10_row_1 rfl ?_
  obtain ⟨hk1, hf⟩ := zite hf
  obtain ⟨v3, h2, hch2, hf⟩ := zc2_e hf
  refine g_callV X 1 (sX10_noRow hch2) zf10 hk1 ydX10_noRow w_ml_RX10_128 w_instanceMethod_X10_noRow w_sel_X10_noRow w_ini_RX10 w_code_X10_noRow (by decide) rfl (st := []) rfl rfl (Nat.le_of_ble_eq_true rfl) dX10_row_2 ?_
  refine g_if_ne X 26 dX10_row_5 (by decide) (fun hq => ?_) (fun hq => ?_)
  · have hf := zneg hq hf
    refine g_aload_n X 0 dX10_row_26 rfl ?_
    refine g_iconst X (v := 1) dX10_row_27 (by decide) ?_
    obtain ⟨v5, h4, hch4, hf⟩ := zc2_e hf
    refine g_callV X 1 (sX10_refuse hch4) zf10 hk1 ydX10_refuse w_ml_RX10_56 w_instanceMethod_X10_refuse w_sel_X10_refuse w_ini_RX10 w_code_X10_refuse (by decide) rfl (st := []) rfl rfl (Nat.le_of_ble_eq_true rfl) dX10_row_28 ?_
    obtain ⟨rfl, rfl⟩ := zsm hf
    exact g_iret X hr dX10_row_31
  · have hf := zpos hq hf
    refine g_iload_n X 2 dX10_row_8 rfl ?_
    refine g_if_lt X 26 dX10_row_9 (by decide) (fun hq => ?_) (fun hq => ?_)
    · have hf := zpos hq hf
      refine g_aload_n X 0 dX10_row_26 rfl ?_
      refine g_iconst X (v := 1) dX10_row_27 (by decide) ?_
      obtain ⟨v7, h6, hch6, hf⟩ := zc2_e hf
      refine g_callV X 1 (sX10_refuse hch6) zf10 hk1 ydX10_refuse w_ml_RX10_56 w_instanceMethod_X10_refuse w_sel_X10_refuse w_ini_RX10 w_code_X10_refuse (by decide) rfl (st := []) rfl rfl (Nat.le_of_ble_eq_true rfl) dX10_row_28 ?_
      obtain ⟨rfl, rfl⟩ := zsm hf
      exact g_iret X hr dX10_row_31
    · have hf := zneg hq hf
      refine g_iload_n X 2 dX10_row_12 rfl ?_
      refine g_aload_n X 0 dX10_row_13 rfl ?_
      obtain ⟨r_8, hr_8, hf⟩ := zbd hf
      refine g_get X zf10 hk1 3 (by decide) w_f_RX10_23 rfl (zfv_r hr_8 rfl) dX10_row_14 ?_
      obtain ⟨hk9, hf⟩ := zite hf
      obtain ⟨r_10, hr_10, hf⟩ := zbd hf
      refine g_get X zf9 hk9 1 (by decide) w_f_RX10_94 rfl (zfv_r hr_10 rfl) dX10_row_17 ?_
      obtain ⟨hk11, hf⟩ := zite hf
      refine g_get X zf0 hk11 5 (by decide) w_f_RX10_131 rfl rfl dX10_row_20 ?_
      refine g_icmp_lt X 32 dX10_row_23 (by decide) (fun hq => ?_) (fun hq => ?_)
      · have hf := zpos hq hf
        refine g_aload_n X 0 dX10_row_32 rfl ?_
        obtain ⟨r_12, hr_12, hf⟩ := zbd hf
        refine g_get X zf10 hk1 3 (by decide) w_f_RX10_23 rfl (zfv_r hr_12 rfl) dX10_row_33 ?_
        obtain ⟨hk13, hf⟩ := zite hf
        obtain ⟨r_14, hr_14, hf⟩ := zbd hf
        refine g_get X zf9 hk13 1 (by decide) w_f_RX10_94 rfl (zfv_r hr_14 rfl) dX10_row_36 ?_
        refine g_iload_n X 1 dX10_row_39 rfl ?_
        refine g_aload_n X 0 dX10_row_40 rfl ?_
        obtain ⟨r_15, hr_15, hf⟩ := zbd hf
        refine g_get X zf10 hk1 11 (by decide) w_f_RX10_44 rfl (zfv_r hr_15 rfl) dX10_row_41 ?_
        obtain ⟨hk16, hf⟩ := zite hf
        obtain ⟨h17, hch17, hf⟩ := zbd hf
        refine g_callV X 2 (sX0_unpackRow hch17) zf0 hk16 ydX0_unpackRow w_ml_RX10_134 w_instanceMethod_X0_unpackRow w_sel_X0_unpackRow w_ini_RX0 w_code_X0_unpackRow (by decide) rfl (st := []) rfl rfl (Nat.le_of_ble_eq_true rfl) dX10_row_44 ?_
        refine g_aload_n X 0 dX10_row_47 rfl ?_
        refine g_aload_n X 0 dX10_row_48 rfl ?_
        obtain ⟨r_18, hr_18, hf⟩ := zbd hf
        refine g_get X zf10 hk1 11 (by decide) w_f_RX10_44 rfl (zfv_r hr_18 rfl) dX10_row_49 ?_
        refine g_iload_n X 2 dX10_row_52 rfl ?_
        obtain ⟨hk19, hf⟩ := zite hf
        obtain ⟨hi20, hf⟩ := zite hf
        refine g_iald X hk19 hi20 dX10_row_53 ?_
        obtain ⟨v22, h21, hch21, hf⟩ := zc2_e hf
        refine g_callV X 1 (sX10_answer hch21) zf10 hk1 ydX10_answer w_ml_RX10_84 w_instanceMethod_X10_answer w_sel_X10_answer w_ini_RX10 w_code_X10_answer (by decide) rfl (st := []) rfl rfl (Nat.le_of_ble_eq_true rfl) dX10_row_54 ?_
        obtain ⟨rfl, rfl⟩ := zsm hf
        exact g_iret X hr dX10_row_57
      · have hf := zneg hq hf
        refine g_aload_n X 0 dX10_row_26 rfl ?_
        refine g_iconst X (v := 1) dX10_row_27 (by decide) ?_
        obtain ⟨v24, h23, hch23, hf⟩ := zc2_e hf
        refine g_callV X 1 (sX10_refuse hch23) zf10 hk1 ydX10_refuse w_ml_RX10_56 w_instanceMethod_X10_refuse w_sel_X10_refuse w_ini_RX10 w_code_X10_refuse (by decide) rfl (st := []) rfl rfl (Nat.le_of_ble_eq_true rfl) dX10_row_28 ?_
        obtain ⟨rfl, rfl⟩ := zsm hf
        exact g_iret X hr dX10_row_31

set_option maxHeartbeats 4000000 in
set_option maxRecDepth 100000 in
theorem sX10_tilted {l : Launch} {D : va_G} {cA : Nat → ClassId} {base : Nat} {sA : Nat → Nat} {r0 : Nat} {x1 : Int32} {h hE : Zh} {rE : Int32} (hf : fX10_tilted r0 x1 h = some (rE, hE)) : zC l yX10_tilted cX10_tilted 2 (some .int) 1 21 D cA base sA [.ref (base + r0), .int x1] h (some (.int rE)) hE := by
  refine g_entry RX10 (by decide) rfl (Nat.le_of_ble_eq_true rfl) ?_
  intro p e s m args below meth c X hr
  unfold fX10_tilted at hf
  have hf := zlet_n (x := h) rfl hf
  show zG p l e { frames := 1, cells := 0, slots := 0, locals := 21 } s m args below meth c (MQ below (zQ D cA base h hE (some (.int rE))) args s 0 0 (zA base)) 2 D cA base h 0 [(0, .ref (base + r0)), (1, .int x1)] [] h
  refine g_aload_n X 0 dX10_tilted_0 rfl ?_
  refine g_iload_n X 1 dX10_tilted_1 rfl ?_
  obtain ⟨hk1, hf⟩ := zite hf
  obtain ⟨v3, h2, hch2, hf⟩ := zc2_e hf
  refine g_callV X 1 (sX10_noRow hch2) zf10 hk1 ydX10_noRow w_ml_RX10_128 w_instanceMethod_X10_noRow w_sel_X10_noRow w_ini_RX10 w_code_X10_noRow (by decide) rfl (st := []) rfl rfl (Nat.le_of_ble_eq_true rfl) dX10_tilted_2 ?_
  refine g_if_eq X 14 dX10_tilted_5 (by decide) (fun hq => ?_) (fun hq => ?_)
  · have hf := zpos hq hf
    refine g_aload_n X 0 dX10_tilted_14 rfl ?_
    refine g_iload_n X 1 dX10_tilted_15 rfl ?_
    refine g_aload_n X 0 dX10_tilted_16 rfl ?_
    obtain ⟨r_4, hr_4, hf⟩ := zbd hf
    refine g_get X zf10 hk1 3 (by decide) w_f_RX10_23 rfl (zfv_r hr_4 rfl) dX10_tilted_17 ?_
    obtain ⟨hk5, hf⟩ := zite hf
    obtain ⟨r_6, hr_6, hf⟩ := zbd hf
    refine g_get X zf9 hk5 1 (by decide) w_f_RX10_94 rfl (zfv_r hr_6 rfl) dX10_tilted_20 ?_
    obtain ⟨hk7, hf⟩ := zite hf
    refine g_get X zf0 hk7 12 (by decide) w_f_RX10_138 rfl rfl dX10_tilted_23 ?_
    obtain ⟨hn8, hf⟩ := zite hf
    refine g_irem X hn8 dX10_tilted_26 ?_
    obtain ⟨v10, h9, hch9, hf⟩ := zc2_e hf
    refine g_callV X 1 (sX10_answer hch9) zf10 hk1 ydX10_answer w_ml_RX10_84 w_instanceMethod_X10_answer w_sel_X10_answer w_ini_RX10 w_code_X10_answer (by decide) rfl (st := []) rfl rfl (Nat.le_of_ble_eq_true rfl) dX10_tilted_27 ?_
    obtain ⟨rfl, rfl⟩ := zsm hf
    exact g_iret X hr dX10_tilted_30
  · have hf := zneg hq hf
    refine g_aload_n X 0 dX10_tilted_8 rfl ?_
    refine g_iconst X (v := 1) dX10_tilted_9 (by decide) ?_
    obtain ⟨v12, h11, hch11, hf⟩ := zc2_e hf
    refine g_callV X 1 (sX10_refuse hch11) zf10 hk1 ydX10_refuse w_ml_RX10_56 w_instanceMethod_X10_refuse w_sel_X10_refuse w_ini_RX10 w_code_X10_refuse (by decide) rfl (st := []) rfl rfl (Nat.le_of_ble_eq_true rfl) dX10_tilted_10 ?_
    obtain ⟨rfl, rfl⟩ := zsm hf
    exact g_iret X hr dX10_tilted_13

set_option maxHeartbeats 4000000 in
set_option maxRecDepth 100000 in
theorem sX10_fitsHand {l : Launch} {D : va_G} {cA : Nat → ClassId} {base : Nat} {sA : Nat → Nat} {r0 : Nat} {x1 : Int32} {x2 : Int32} {h hE : Zh} {rE : Int32} (hf : fX10_fitsHand r0 x1 x2 h = some (rE, hE)) : zC l yX10_fitsHand cX10_fitsHand 3 (some .boolean) 3 70 D cA base sA [.ref (base + r0), .int x1, .int x2] h (some (.int rE)) hE := by
  refine g_entry RX10 (by decide) rfl (Nat.le_of_ble_eq_true rfl) ?_
  intro p e s m args below meth c X hr
  unfold fX10_fitsHand at hf
  have hf := zlet_n (x := h) rfl hf
  show zG p l e { frames := 3, cells := 0, slots := 0, locals := 70 } s m args below meth c (MQ below (zQ D cA base h hE (some (.int rE))) args s 0 0 (zA base)) 3 D cA base h 0 [(0, .ref (base + r0)), (1, .int x1), (2, .int x2)] [] h
  refine g_aload_n X 0 dX10_fitsHand_0 rfl ?_
  obtain ⟨hk1, hf⟩ := zite hf
  obtain ⟨r_2, hr_2, hf⟩ := zbd hf
  refine g_get X zf10 hk1 3 (by decide) w_f_RX10_23 rfl (zfv_r hr_2 rfl) dX10_fitsHand_1 ?_
  obtain ⟨hk3, hf⟩ := zite hf
  obtain ⟨r_4, hr_4, hf⟩ := zbd hf
  refine g_get X zf9 hk3 1 (by decide) w_f_RX10_94 rfl (zfv_r hr_4 rfl) dX10_fitsHand_4 ?_
  refine g_iload_n X 2 dX10_fitsHand_7 rfl ?_
  refine g_aload_n X 0 dX10_fitsHand_8 rfl ?_
  obtain ⟨r_5, hr_5, hf⟩ := zbd hf
  refine g_get X zf10 hk1 11 (by decide) w_f_RX10_44 rfl (zfv_r hr_5 rfl) dX10_fitsHand_9 ?_
  obtain ⟨hk6, hf⟩ := zite hf
  obtain ⟨h7, hch7, hf⟩ := zbd hf
  refine g_callV X 2 (sX0_unpackRow hch7) zf0 hk6 ydX0_unpackRow w_ml_RX10_134 w_instanceMethod_X0_unpackRow w_sel_X0_unpackRow w_ini_RX0 w_code_X0_unpackRow (by decide) rfl (st := []) rfl rfl (Nat.le_of_ble_eq_true rfl) dX10_fitsHand_12 ?_
  refine g_aload_n X 0 dX10_fitsHand_15 rfl ?_
  obtain ⟨r_8, hr_8, hf⟩ := zbd hf
  refine g_get X zf10 hk1 3 (by decide) w_f_RX10_23 rfl (zfv_r hr_8 rfl) dX10_fitsHand_16 ?_
  obtain ⟨hk9, hf⟩ := zite hf
  obtain ⟨r_10, hr_10, hf⟩ := zbd hf
  refine g_get X zf9 hk9 1 (by decide) w_f_RX10_94 rfl (zfv_r hr_10 rfl) dX10_fitsHand_19 ?_
  refine g_aload_n X 0 dX10_fitsHand_22 rfl ?_
  obtain ⟨r_11, hr_11, hf⟩ := zbd hf
  refine g_get X zf10 hk1 11 (by decide) w_f_RX10_44 rfl (zfv_r hr_11 rfl) dX10_fitsHand_23 ?_
  refine g_aload_n X 0 dX10_fitsHand_26 rfl ?_
  obtain ⟨r_12, hr_12, hf⟩ := zbd hf
  refine g_get X zf10 hk1 5 (by decide) w_f_RX10_33 rfl (zfv_r hr_12 rfl) dX10_fitsHand_27 ?_
  obtain ⟨hk13, hf⟩ := zite hf
  obtain ⟨r_14, hr_14, hf⟩ := zbd hf
  refine g_get X zf4 hk13 0 (by decide) w_f_RX10_113 rfl (zfv_r hr_14 rfl) dX10_fitsHand_30 ?_
  refine g_iload_n X 1 dX10_fitsHand_33 rfl ?_
  obtain ⟨hk15, hf⟩ := zite hf
  obtain ⟨hi16, hf⟩ := zite hf
  refine g_iald X hk15 hi16 dX10_fitsHand_34 ?_
  obtain ⟨hk17, hf⟩ := zite hf
  obtain ⟨v19, h18, hch18, hf⟩ := zc2_e hf
  refine g_callV X 2 (sX0_isShownOf hch18) zf0 hk17 ydX0_isShownOf w_ml_RX10_149 w_instanceMethod_X0_isShownOf w_sel_X0_isShownOf w_ini_RX0 w_code_X0_isShownOf (by decide) rfl (st := []) rfl rfl (Nat.le_of_ble_eq_true rfl) dX10_fitsHand_35 ?_
  obtain ⟨hb20, hf⟩ := zite hf
  obtain ⟨rfl, rfl⟩ := zsm hf
  exact g_zret X hb20 hr dX10_fitsHand_38

set_option maxHeartbeats 4000000 in
set_option maxRecDepth 100000 in
theorem sX10_answerWhether {l : Launch} {D : va_G} {cA : Nat → ClassId} {base : Nat} {sA : Nat → Nat} {r0 : Nat} {x1 : Int32} {h hE : Zh} {rE : Int32} (hf : fX10_answerWhether r0 x1 h = some (rE, hE)) : zC l yX10_answerWhether cX10_answerWhether 2 (some .int) 0 0 D cA base sA [.ref (base + r0), .int x1] h (some (.int rE)) hE := by
  refine g_entry RX10 (by decide) rfl (Nat.le_of_ble_eq_true rfl) ?_
  intro p e s m args below meth c X hr
  unfold fX10_answerWhether at hf
  have hf := zlet_n (x := h) rfl hf
  show zG p l e { frames := 0, cells := 0, slots := 0, locals := 0 } s m args below meth c (MQ below (zQ D cA base h hE (some (.int rE))) args s 0 0 (zA base)) 2 D cA base h 0 [(0, .ref (base + r0)), (1, .int x1)] [] h
  refine g_aload_n X 0 dX10_answerWhether_0 rfl ?_
  refine g_iconst X (v := 0) dX10_answerWhether_1 (by decide) ?_
  obtain ⟨hk1, hf⟩ := zite hf
  refine g_putI X zf10 hk1 8 (by decide) w_f_RX10_87 rfl rfl rfl dX10_answerWhether_2 ?_
  refine g_hp (fun h2 eh2 => ?_)
  have hf := zlet_n eh2 hf
  refine g_iload_n X 1 dX10_answerWhether_5 rfl ?_
  refine g_if_eq X 13 dX10_answerWhether_6 (by decide) (fun hq => ?_) (fun hq => ?_)
  · have hf := zpos hq hf
    refine g_iconst X (v := 0) dX10_answerWhether_13 (by decide) ?_
    obtain ⟨rfl, rfl⟩ := zsm hf
    exact g_iret X hr dX10_answerWhether_14
  · have hf := zneg hq hf
    refine g_iconst X (v := 1) dX10_answerWhether_9 (by decide) ?_
    refine g_goto X 14 dX10_answerWhether_10 (by decide) ?_
    obtain ⟨rfl, rfl⟩ := zsm hf
    exact g_iret X hr dX10_answerWhether_14

set_option maxHeartbeats 4000000 in
set_option maxRecDepth 100000 in
theorem sX10_fits {l : Launch} {D : va_G} {cA : Nat → ClassId} {base : Nat} {sA : Nat → Nat} {r0 : Nat} {x1 : Int32} {x2 : Int32} {h hE : Zh} {rE : Int32} (hf : fX10_fits r0 x1 x2 h = some (rE, hE)) : zC l yX10_fits cX10_fits 3 (some .int) 4 92 D cA base sA [.ref (base + r0), .int x1, .int x2] h (some (.int rE)) hE := by
  refine g_entry RX10 (by decide) rfl (Nat.le_of_ble_eq_true rfl) ?_
  intro p e s m args below meth c X hr
  unfold fX10_fits at hf
  have hf := zlet_n (x := h) rfl hf
  show zG p l e { frames := 4, cells := 0, slots := 0, locals := 92 } s m args below meth c (MQ below (zQ D cA base h hE (some (.int rE))) args s 0 0 (zA base)) 3 D cA base h 0 [(0, .ref (base + r0)), (1, .int x1), (2, .int x2)] [] h
  refine g_aload_n X 0 dX10_fits_0 rfl ?_
  refine g_iload_n X 1 dX10_fits_1 rfl ?_
  obtain ⟨hk1, hf⟩ := zite hf
  obtain ⟨v3, h2, hch2, hf⟩ := zc2_e hf
  refine g_callV X 1 (sX10_noHand hch2) zf10 hk1 ydX10_noHand w_ml_RX10_106 w_instanceMethod_X10_noHand w_sel_X10_noHand w_ini_RX10 w_code_X10_noHand (by decide) rfl (st := []) rfl rfl (Nat.le_of_ble_eq_true rfl) dX10_fits_2 ?_
  refine g_if_ne X 16 dX10_fits_5 (by decide) (fun hq => ?_) (fun hq => ?_)
  · have hf := zneg hq hf
    refine g_aload_n X 0 dX10_fits_16 rfl ?_
    refine g_iconst X (v := 1) dX10_fits_17 (by decide) ?_
    obtain ⟨v5, h4, hch4, hf⟩ := zc2_e hf
    refine g_callV X 1 (sX10_refuse hch4) zf10 hk1 ydX10_refuse w_ml_RX10_56 w_instanceMethod_X10_refuse w_sel_X10_refuse w_ini_RX10 w_code_X10_refuse (by decide) rfl (st := []) rfl rfl (Nat.le_of_ble_eq_true rfl) dX10_fits_18 ?_
    obtain ⟨rfl, rfl⟩ := zsm hf
    exact g_iret X hr dX10_fits_21
  · have hf := zpos hq hf
    refine g_aload_n X 0 dX10_fits_8 rfl ?_
    refine g_iload_n X 2 dX10_fits_9 rfl ?_
    obtain ⟨v7, h6, hch6, hf⟩ := zc2_e hf
    refine g_callV X 1 (sX10_noRow hch6) zf10 hk1 ydX10_noRow w_ml_RX10_128 w_instanceMethod_X10_noRow w_sel_X10_noRow w_ini_RX10 w_code_X10_noRow (by decide) rfl (st := []) rfl rfl (Nat.le_of_ble_eq_true rfl) dX10_fits_10 ?_
    refine g_if_eq X 22 dX10_fits_13 (by decide) (fun hq => ?_) (fun hq => ?_)
    · have hf := zpos hq hf
      refine g_aload_n X 0 dX10_fits_22 rfl ?_
      refine g_aload_n X 0 dX10_fits_23 rfl ?_
      refine g_iload_n X 1 dX10_fits_24 rfl ?_
      refine g_iload_n X 2 dX10_fits_25 rfl ?_
      obtain ⟨v9, h8, hch8, hf⟩ := zc2_e hf
      refine g_callV X 2 (sX10_fitsHand hch8) zf10 hk1 ydX10_fitsHand w_ml_RX10_141 w_instanceMethod_X10_fitsHand w_sel_X10_fitsHand w_ini_RX10 w_code_X10_fitsHand (by decide) rfl (st := [.ref (base + r0)]) rfl rfl (Nat.le_of_ble_eq_true rfl) dX10_fits_26 ?_
      obtain ⟨v11, h10, hch10, hf⟩ := zc2_e hf
      refine g_callV X 1 (sX10_answerWhether hch10) zf10 hk1 ydX10_answerWhether w_ml_RX10_145 w_instanceMethod_X10_answerWhether w_sel_X10_answerWhether w_ini_RX10 w_code_X10_answerWhether (by decide) rfl (st := []) rfl rfl (Nat.le_of_ble_eq_true rfl) dX10_fits_29 ?_
      obtain ⟨rfl, rfl⟩ := zsm hf
      exact g_iret X hr dX10_fits_32
    · have hf := zneg hq hf
      refine g_aload_n X 0 dX10_fits_16 rfl ?_
      refine g_iconst X (v := 1) dX10_fits_17 (by decide) ?_
      obtain ⟨v13, h12, hch12, hf⟩ := zc2_e hf
      refine g_callV X 1 (sX10_refuse hch12) zf10 hk1 ydX10_refuse w_ml_RX10_56 w_instanceMethod_X10_refuse w_sel_X10_refuse w_ini_RX10 w_code_X10_refuse (by decide) rfl (st := []) rfl rfl (Nat.le_of_ble_eq_true rfl) dX10_fits_18 ?_
      obtain ⟨rfl, rfl⟩ := zsm hf
      exact g_iret X hr dX10_fits_21

set_option maxHeartbeats 4000000 in
set_option maxRecDepth 100000 in
theorem sX10_fitting {l : Launch} {D : va_G} {cA : Nat → ClassId} {base : Nat} {sA : Nat → Nat} {r0 : Nat} {h hE : Zh} {rE : Int32} (hf : fX10_fitting r0 h = some (rE, hE)) : zC l yX10_fitting cX10_fitting 1 (some .int) 2 46 D cA base sA [.ref (base + r0)] h (some (.int rE)) hE := by
  refine g_entry RX10 (by decide) rfl (Nat.le_of_ble_eq_true rfl) ?_
  intro p e s m args below meth c X hr
  unfold fX10_fitting at hf
  have hf := zlet_n (x := h) rfl hf
  show zG p l e { frames := 2, cells := 0, slots := 0, locals := 46 } s m args below meth c (MQ below (zQ D cA base h hE (some (.int rE))) args s 0 0 (zA base)) 1 D cA base h 0 [(0, .ref (base + r0))] [] h
  refine g_aload_n X 0 dX10_fitting_0 rfl ?_
  obtain ⟨hk1, hf⟩ := zite hf
  obtain ⟨r_2, hr_2, hf⟩ := zbd hf
  refine g_get X zf10 hk1 3 (by decide) w_f_RX10_23 rfl (zfv_r hr_2 rfl) dX10_fitting_1 ?_
  obtain ⟨hk3, hf⟩ := zite hf
  refine g_get X zf9 hk3 0 (by decide) w_f_RX10_90 rfl rfl dX10_fitting_4 ?_
  refine g_if_ne X 16 dX10_fitting_7 (by decide) (fun hq => ?_) (fun hq => ?_)
  · have hf := zneg hq hf
    refine g_aload_n X 0 dX10_fitting_16 rfl ?_
    refine g_aload_n X 0 dX10_fitting_17 rfl ?_
    obtain ⟨r_4, hr_4, hf⟩ := zbd hf
    refine g_get X zf10 hk1 3 (by decide) w_f_RX10_23 rfl (zfv_r hr_4 rfl) dX10_fitting_18 ?_
    obtain ⟨hk5, hf⟩ := zite hf
    obtain ⟨r_6, hr_6, hf⟩ := zbd hf
    refine g_get X zf9 hk5 1 (by decide) w_f_RX10_94 rfl (zfv_r hr_6 rfl) dX10_fitting_21 ?_
    obtain ⟨hk7, hf⟩ := zite hf
    obtain ⟨v9, h8, hch8, hf⟩ := zc2_e hf
    refine g_callV X 0 (sX0_waysToShow hch8) zf0 hk7 ydX0_waysToShow w_ml_RX10_153 w_instanceMethod_X0_waysToShow w_sel_X0_waysToShow w_ini_RX0 w_code_X0_waysToShow (by decide) rfl (st := [.ref (base + r0)]) rfl rfl (Nat.le_of_ble_eq_true rfl) dX10_fitting_24 ?_
    obtain ⟨v11, h10, hch10, hf⟩ := zc2_e hf
    refine g_callV X 1 (sX10_answer hch10) zf10 hk1 ydX10_answer w_ml_RX10_84 w_instanceMethod_X10_answer w_sel_X10_answer w_ini_RX10 w_code_X10_answer (by decide) rfl (st := []) rfl rfl (Nat.le_of_ble_eq_true rfl) dX10_fitting_27 ?_
    obtain ⟨rfl, rfl⟩ := zsm hf
    exact g_iret X hr dX10_fitting_30
  · have hf := zpos hq hf
    refine g_aload_n X 0 dX10_fitting_10 rfl ?_
    refine g_iconst X (v := 1) dX10_fitting_11 (by decide) ?_
    obtain ⟨v13, h12, hch12, hf⟩ := zc2_e hf
    refine g_callV X 1 (sX10_refuse hch12) zf10 hk1 ydX10_refuse w_ml_RX10_56 w_instanceMethod_X10_refuse w_sel_X10_refuse w_ini_RX10 w_code_X10_refuse (by decide) rfl (st := []) rfl rfl (Nat.le_of_ble_eq_true rfl) dX10_fitting_12 ?_
    obtain ⟨rfl, rfl⟩ := zsm hf
    exact g_iret X hr dX10_fitting_15

set_option maxHeartbeats 4000000 in
set_option maxRecDepth 100000 in
theorem sX10_wordsWork {l : Launch} {D : va_G} {cA : Nat → ClassId} {base : Nat} {sA : Nat → Nat} {r0 : Nat} {x1 : Int32} {h hE : Zh} {rE : Int32} (hf : fX10_wordsWork r0 x1 h = some (rE, hE)) : zC l yX10_wordsWork cX10_wordsWork 2 (some .int) 6 151 D cA base sA [.ref (base + r0), .int x1] h (some (.int rE)) hE := by
  refine g_entry RX10 (by decide) rfl (Nat.le_of_ble_eq_true rfl) ?_
  intro p e s m args below meth c X hr
  unfold fX10_wordsWork at hf
  have hf := zlet_n (x := h) rfl hf
  show zG p l e { frames := 6, cells := 0, slots := 0, locals := 151 } s m args below meth c (MQ below (zQ D cA base h hE (some (.int rE))) args s 0 0 (zA base)) 2 D cA base h 0 [(0, .ref (base + r0)), (1, .int x1)] [] h
  refine g_aload_n X 0 dX10_wordsWork_0 rfl ?_
  obtain ⟨hk1, hf⟩ := zite hf
  obtain ⟨r_2, hr_2, hf⟩ := zbd hf
  refine g_get X zf10 hk1 3 (by decide) w_f_RX10_23 rfl (zfv_r hr_2 rfl) dX10_wordsWork_1 ?_
  obtain ⟨hk3, hf⟩ := zite hf
  refine g_get X zf9 hk3 0 (by decide) w_f_RX10_90 rfl rfl dX10_wordsWork_4 ?_
  refine g_if_ne X 16 dX10_wordsWork_7 (by decide) (fun hq => ?_) (fun hq => ?_)
  · have hf := zneg hq hf
    refine g_iload_n X 1 dX10_wordsWork_16 rfl ?_
    refine g_if_lt X 26 dX10_wordsWork_17 (by decide) (fun hq => ?_) (fun hq => ?_)
    · have hf := zpos hq hf
      refine g_aload_n X 0 dX10_wordsWork_26 rfl ?_
      refine g_iconst X (v := 2) dX10_wordsWork_27 (by decide) ?_
      obtain ⟨v5, h4, hch4, hf⟩ := zc2_e hf
      refine g_callV X 1 (sX10_refuse hch4) zf10 hk1 ydX10_refuse w_ml_RX10_56 w_instanceMethod_X10_refuse w_sel_X10_refuse w_ini_RX10 w_code_X10_refuse (by decide) rfl (st := []) rfl rfl (Nat.le_of_ble_eq_true rfl) dX10_wordsWork_28 ?_
      obtain ⟨rfl, rfl⟩ := zsm hf
      exact g_iret X hr dX10_wordsWork_31
    · have hf := zneg hq hf
      refine g_iload_n X 1 dX10_wordsWork_20 rfl ?_
      refine g_bipush X (v := 20) dX10_wordsWork_21 (by decide) ?_
      refine g_icmp_lt X 32 dX10_wordsWork_23 (by decide) (fun hq => ?_) (fun hq => ?_)
      · have hf := zpos hq hf
        refine g_aload_n X 0 dX10_wordsWork_32 rfl ?_
        refine g_aload_n X 0 dX10_wordsWork_33 rfl ?_
        obtain ⟨r_6, hr_6, hf⟩ := zbd hf
        refine g_get X zf10 hk1 5 (by decide) w_f_RX10_33 rfl (zfv_r hr_6 rfl) dX10_wordsWork_34 ?_
        refine g_iload_n X 1 dX10_wordsWork_37 rfl ?_
        obtain ⟨hk7, hf⟩ := zite hf
        obtain ⟨v9, h8, hch8, hf⟩ := zc2_e hf
        refine g_callV X 1 (sX4_doWordsWork hch8) zf4 hk7 ydX4_doWordsWork w_ml_RX10_202 w_instanceMethod_X4_doWordsWork w_sel_X4_doWordsWork w_ini_RX4 w_code_X4_doWordsWork (by decide) rfl (st := [.ref (base + r0)]) rfl rfl (Nat.le_of_ble_eq_true rfl) dX10_wordsWork_38 ?_
        obtain ⟨v11, h10, hch10, hf⟩ := zc2_e hf
        refine g_callV X 1 (sX10_answerWhether hch10) zf10 hk1 ydX10_answerWhether w_ml_RX10_145 w_instanceMethod_X10_answerWhether w_sel_X10_answerWhether w_ini_RX10 w_code_X10_answerWhether (by decide) rfl (st := []) rfl rfl (Nat.le_of_ble_eq_true rfl) dX10_wordsWork_41 ?_
        obtain ⟨rfl, rfl⟩ := zsm hf
        exact g_iret X hr dX10_wordsWork_44
      · have hf := zneg hq hf
        refine g_aload_n X 0 dX10_wordsWork_26 rfl ?_
        refine g_iconst X (v := 2) dX10_wordsWork_27 (by decide) ?_
        obtain ⟨v13, h12, hch12, hf⟩ := zc2_e hf
        refine g_callV X 1 (sX10_refuse hch12) zf10 hk1 ydX10_refuse w_ml_RX10_56 w_instanceMethod_X10_refuse w_sel_X10_refuse w_ini_RX10 w_code_X10_refuse (by decide) rfl (st := []) rfl rfl (Nat.le_of_ble_eq_true rfl) dX10_wordsWork_28 ?_
        obtain ⟨rfl, rfl⟩ := zsm hf
        exact g_iret X hr dX10_wordsWork_31
  · have hf := zpos hq hf
    refine g_aload_n X 0 dX10_wordsWork_10 rfl ?_
    refine g_iconst X (v := 1) dX10_wordsWork_11 (by decide) ?_
    obtain ⟨v15, h14, hch14, hf⟩ := zc2_e hf
    refine g_callV X 1 (sX10_refuse hch14) zf10 hk1 ydX10_refuse w_ml_RX10_56 w_instanceMethod_X10_refuse w_sel_X10_refuse w_ini_RX10 w_code_X10_refuse (by decide) rfl (st := []) rfl rfl (Nat.le_of_ble_eq_true rfl) dX10_wordsWork_12 ?_
    obtain ⟨rfl, rfl⟩ := zsm hf
    exact g_iret X hr dX10_wordsWork_15

set_option maxHeartbeats 4000000 in
set_option maxRecDepth 100000 in
theorem sX10_shortest {l : Launch} {D : va_G} {cA : Nat → ClassId} {base : Nat} {sA : Nat → Nat} {r0 : Nat} {h hE : Zh} {rE : Int32} (hf : fX10_shortest r0 h = some (rE, hE)) : zC l yX10_shortest cX10_shortest 2 (some .int) 6 151 D cA base sA [.ref (base + r0)] h (some (.int rE)) hE := by
  refine g_entry RX10 (by decide) rfl (Nat.le_of_ble_eq_true rfl) ?_
  intro p e s m args below meth c X hr
  unfold fX10_shortest at hf
  have hf := zlet_n (x := h) rfl hf
  show zG p l e { frames := 6, cells := 0, slots := 0, locals := 151 } s m args below meth c (MQ below (zQ D cA base h hE (some (.int rE))) args s 0 0 (zA base)) 2 D cA base h 0 [(0, .ref (base + r0))] [] h
  refine g_aload_n X 0 dX10_shortest_0 rfl ?_
  obtain ⟨hk1, hf⟩ := zite hf
  obtain ⟨r_2, hr_2, hf⟩ := zbd hf
  refine g_get X zf10 hk1 3 (by decide) w_f_RX10_23 rfl (zfv_r hr_2 rfl) dX10_shortest_1 ?_
  obtain ⟨hk3, hf⟩ := zite hf
  refine g_get X zf9 hk3 0 (by decide) w_f_RX10_90 rfl rfl dX10_shortest_4 ?_
  refine g_if_ne X 16 dX10_shortest_7 (by decide) (fun hq => ?_) (fun hq => ?_)
  · have hf := zneg hq hf
    refine g_iconst X (v := 0) dX10_shortest_16 (by decide) ?_
    refine g_istore_n X [(1, .int ((0 : Int32))), (0, .ref (base + r0))] dX10_shortest_17 (by decide) rfl ?_
    refine g_sub [1, 0] rfl ?_
    obtain ⟨qq, hlp, hf⟩ := zbd hf
    refine lp_snd (body := (fun q : Int32 × Zh => bX10_shortest_18 h r0 q.1 q.2)) (P := (fun q : Int32 × Zh => zG p l e { frames := 6, cells := 0, slots := 0, locals := 151 } s m args below meth c (MQ below (zQ D cA base h hE (some (.int rE))) args s 0 0 (zA base)) 2 D cA base h 18 [(0, .ref (base + r0)), (1, .int q.1)] [] q.2)) (E := (fun (en : Nat) (q : Int32 × Zh) => if en = 1 then zG p l e { frames := 6, cells := 0, slots := 0, locals := 151 } s m args below meth c (MQ below (zQ D cA base h hE (some (.int rE))) args s 0 0 (zA base)) 2 D cA base h 35 [(0, .ref (base + r0)), (1, .int q.1)] [] q.2 else zG p l e { frames := 6, cells := 0, slots := 0, locals := 151 } s m args below meth c (MQ below (zQ D cA base h hE (some (.int rE))) args s 0 0 (zA base)) 2 D cA base h 47 [(0, .ref (base + r0))] [] q.2)) ?_ zB ((0 : Int32), h) qq.1 qq.2 hlp ?_
    · intro q e_18 q_18 hf hc0 hc1
      obtain ⟨x1_18, h_18⟩ := q
      have hf : bX10_shortest_18 h r0 x1_18 h_18 = some (e_18, q_18) := hf
      unfold bX10_shortest_18 at hf
      show zG p l e { frames := 6, cells := 0, slots := 0, locals := 151 } s m args below meth c (MQ below (zQ D cA base h hE (some (.int rE))) args s 0 0 (zA base)) 2 D cA base h 18 [(0, .ref (base + r0)), (1, .int x1_18)] [] h_18
      refine g_iload_n X 1 dX10_shortest_18 rfl ?_
      refine g_bipush X (v := 20) dX10_shortest_19 (by decide) ?_
      refine g_icmp_ge X 47 dX10_shortest_21 (by decide) (fun hq => ?_) (fun hq => ?_)
      · have hf := zpos hq hf
        cases hf
        have hc1 := hc1 (by decide)
        exact g_sub [0] rfl (zun_n (by decide) hc1)
      · have hf := zneg hq hf
        refine g_aload_n X 0 dX10_shortest_24 rfl ?_
        obtain ⟨r_4, hr_4, hf⟩ := zbd hf
        refine g_get X zf10 hk1 5 (by decide) w_f_RX10_33 rfl (zfv_r hr_4 rfl) dX10_shortest_25 ?_
        refine g_iload_n X 1 dX10_shortest_28 rfl ?_
        obtain ⟨hk5, hf⟩ := zite hf
        obtain ⟨v7, h6, hch6, hf⟩ := zc2_e hf
        refine g_callV X 1 (sX4_doWordsWork hch6) zf4 hk5 ydX4_doWordsWork w_ml_RX10_202 w_instanceMethod_X4_doWordsWork w_sel_X4_doWordsWork w_ini_RX4 w_code_X4_doWordsWork (by decide) rfl (st := []) rfl rfl (Nat.le_of_ble_eq_true rfl) dX10_shortest_29 ?_
        refine g_if_eq X 41 dX10_shortest_32 (by decide) (fun hq => ?_) (fun hq => ?_)
        · have hf := zpos hq hf
          obtain ⟨y8, ey8⟩ : ∃ y : Int32, y = x1_18 + (1 : Int32) := ⟨_, rfl⟩
          have hf := zlet_n ey8 hf
          refine g_iinc X (j := 1) [(1, .int y8), (0, .ref (base + r0))] dX10_shortest_41 rfl (by rw [ey8]; rfl) (by decide) rfl ?_
          refine g_goto X 18 dX10_shortest_44 (by decide) ?_
          cases hf
          exact g_sub [1, 0] rfl (hc0 rfl)
        · have hf := zneg hq hf
          cases hf
          have hc1 := hc1 (by decide)
          exact g_sub [0, 1] rfl (zun_p rfl hc1)
    · obtain ⟨ee, x1_k18, h_k18⟩ := qq
      have hf : kX10_shortest_18 h r0 ee x1_k18 h_k18 = some (rE, hE) := hf
      unfold kX10_shortest_18 at hf
      by_cases hee0 : ee = 1
      · have hf := zpos hee0 hf
        refine zifp hee0 ?_
        show zG p l e { frames := 6, cells := 0, slots := 0, locals := 151 } s m args below meth c (MQ below (zQ D cA base h hE (some (.int rE))) args s 0 0 (zA base)) 2 D cA base h 35 [(0, .ref (base + r0)), (1, .int x1_k18)] [] h_k18
        refine g_aload_n X 0 dX10_shortest_35 rfl ?_
        refine g_iload_n X 1 dX10_shortest_36 rfl ?_
        obtain ⟨v10, h9, hch9, hf⟩ := zc2_e hf
        refine g_callV X 1 (sX10_answer hch9) zf10 hk1 ydX10_answer w_ml_RX10_84 w_instanceMethod_X10_answer w_sel_X10_answer w_ini_RX10 w_code_X10_answer (by decide) rfl (st := []) rfl rfl (Nat.le_of_ble_eq_true rfl) dX10_shortest_37 ?_
        obtain ⟨rfl, rfl⟩ := zsm hf
        exact g_iret X hr dX10_shortest_40
      have hf := zneg hee0 hf
      refine zifn hee0 ?_
      show zG p l e { frames := 6, cells := 0, slots := 0, locals := 151 } s m args below meth c (MQ below (zQ D cA base h hE (some (.int rE))) args s 0 0 (zA base)) 2 D cA base h 47 [(0, .ref (base + r0))] [] h_k18
      refine g_aload_n X 0 dX10_shortest_47 rfl ?_
      refine g_bipush X (v := -2) dX10_shortest_48 (by decide) ?_
      obtain ⟨v12, h11, hch11, hf⟩ := zc2_e hf
      refine g_callV X 1 (sX10_answer hch11) zf10 hk1 ydX10_answer w_ml_RX10_84 w_instanceMethod_X10_answer w_sel_X10_answer w_ini_RX10 w_code_X10_answer (by decide) rfl (st := []) rfl rfl (Nat.le_of_ble_eq_true rfl) dX10_shortest_50 ?_
      obtain ⟨rfl, rfl⟩ := zsm hf
      exact g_iret X hr dX10_shortest_53
  · have hf := zpos hq hf
    refine g_aload_n X 0 dX10_shortest_10 rfl ?_
    refine g_iconst X (v := 1) dX10_shortest_11 (by decide) ?_
    obtain ⟨v14, h13, hch13, hf⟩ := zc2_e hf
    refine g_callV X 1 (sX10_refuse hch13) zf10 hk1 ydX10_refuse w_ml_RX10_56 w_instanceMethod_X10_refuse w_sel_X10_refuse w_ini_RX10 w_code_X10_refuse (by decide) rfl (st := []) rfl rfl (Nat.le_of_ble_eq_true rfl) dX10_shortest_12 ?_
    obtain ⟨rfl, rfl⟩ := zsm hf
    exact g_iret X hr dX10_shortest_15

set_option maxHeartbeats 4000000 in
set_option maxRecDepth 100000 in
theorem sX10_pairs {l : Launch} {D : va_G} {cA : Nat → ClassId} {base : Nat} {sA : Nat → Nat} {r0 : Nat} {h hE : Zh} {rE : Int32} (hf : fX10_pairs r0 h = some (rE, hE)) : zC l yX10_pairs cX10_pairs 2 (some .int) 2 45 D cA base sA [.ref (base + r0)] h (some (.int rE)) hE := by
  refine g_entry RX10 (by decide) rfl (Nat.le_of_ble_eq_true rfl) ?_
  intro p e s m args below meth c X hr
  unfold fX10_pairs at hf
  have hf := zlet_n (x := h) rfl hf
  show zG p l e { frames := 2, cells := 0, slots := 0, locals := 45 } s m args below meth c (MQ below (zQ D cA base h hE (some (.int rE))) args s 0 0 (zA base)) 2 D cA base h 0 [(0, .ref (base + r0))] [] h
  refine g_aload_n X 0 dX10_pairs_0 rfl ?_
  obtain ⟨hk1, hf⟩ := zite hf
  obtain ⟨r_2, hr_2, hf⟩ := zbd hf
  refine g_get X zf10 hk1 3 (by decide) w_f_RX10_23 rfl (zfv_r hr_2 rfl) dX10_pairs_1 ?_
  obtain ⟨hk3, hf⟩ := zite hf
  refine g_get X zf9 hk3 0 (by decide) w_f_RX10_90 rfl rfl dX10_pairs_4 ?_
  refine g_if_ne X 16 dX10_pairs_7 (by decide) (fun hq => ?_) (fun hq => ?_)
  · have hf := zneg hq hf
    refine g_aload_n X 0 dX10_pairs_16 rfl ?_
    obtain ⟨r_4, hr_4, hf⟩ := zbd hf
    refine g_get X zf10 hk1 3 (by decide) w_f_RX10_23 rfl (zfv_r hr_4 rfl) dX10_pairs_17 ?_
    obtain ⟨hk5, hf⟩ := zite hf
    obtain ⟨r_6, hr_6, hf⟩ := zbd hf
    refine g_get X zf9 hk5 1 (by decide) w_f_RX10_94 rfl (zfv_r hr_6 rfl) dX10_pairs_20 ?_
    refine g_astore_n X [(1, .ref (base + r_6)), (0, .ref (base + r0))] dX10_pairs_23 (by decide) rfl ?_
    refine g_aload_n X 1 dX10_pairs_24 rfl ?_
    refine g_aload_n X 0 dX10_pairs_25 rfl ?_
    refine g_aload_n X 0 dX10_pairs_26 rfl ?_
    obtain ⟨hk7, hf⟩ := zite hf
    refine g_get X zf0 hk7 0 (by decide) w_f_RX10_205 rfl rfl dX10_pairs_27 ?_
    obtain ⟨v9, h8, hch8, hf⟩ := zc2_e hf
    refine g_callV X 1 (sX0_handsOf hch8) zf0 hk7 ydX0_handsOf w_ml_RX10_208 w_instanceMethod_X0_handsOf w_sel_X0_handsOf w_ini_RX0 w_code_X0_handsOf (by decide) rfl (st := [.ref (base + r0)]) rfl rfl (Nat.le_of_ble_eq_true rfl) dX10_pairs_30 ?_
    refine g_aload_n X 0 dX10_pairs_33 rfl ?_
    refine g_aload_n X 0 dX10_pairs_34 rfl ?_
    refine g_get X zf0 hk7 0 (by decide) w_f_RX10_205 rfl rfl dX10_pairs_35 ?_
    obtain ⟨v11, h10, hch10, hf⟩ := zc2_e hf
    refine g_callV X 1 (sX0_rowsOf hch10) zf0 hk7 ydX0_rowsOf w_ml_RX10_212 w_instanceMethod_X0_rowsOf w_sel_X0_rowsOf w_ini_RX0 w_code_X0_rowsOf (by decide) rfl (st := [.long v9, .ref (base + r0)]) rfl rfl (Nat.le_of_ble_eq_true rfl) dX10_pairs_38 ?_
    refine g_mminl X w_m1_RX10_215 w_m2_mminl w_m3 w_m4_mminl (Nat.le_of_ble_eq_true rfl) (Nat.le_of_ble_eq_true rfl) dX10_pairs_41 ?_
    refine g_l2i X dX10_pairs_44 ?_
    obtain ⟨v13, h12, hch12, hf⟩ := zc2_e hf
    refine g_callV X 1 (sX10_answer hch12) zf10 hk1 ydX10_answer w_ml_RX10_84 w_instanceMethod_X10_answer w_sel_X10_answer w_ini_RX10 w_code_X10_answer (by decide) rfl (st := []) rfl rfl (Nat.le_of_ble_eq_true rfl) dX10_pairs_45 ?_
    obtain ⟨rfl, rfl⟩ := zsm hf
    exact g_iret X hr dX10_pairs_48
  · have hf := zpos hq hf
    refine g_aload_n X 0 dX10_pairs_10 rfl ?_
    refine g_iconst X (v := 1) dX10_pairs_11 (by decide) ?_
    obtain ⟨v15, h14, hch14, hf⟩ := zc2_e hf
    refine g_callV X 1 (sX10_refuse hch14) zf10 hk1 ydX10_refuse w_ml_RX10_56 w_instanceMethod_X10_refuse w_sel_X10_refuse w_ini_RX10 w_code_X10_refuse (by decide) rfl (st := []) rfl rfl (Nat.le_of_ble_eq_true rfl) dX10_pairs_12 ?_
    obtain ⟨rfl, rfl⟩ := zsm hf
    exact g_iret X hr dX10_pairs_15

set_option maxHeartbeats 4000000 in
set_option maxRecDepth 100000 in
theorem sX10_count {l : Launch} {D : va_G} {cA : Nat → ClassId} {base : Nat} {sA : Nat → Nat} {r0 : Nat} {x1 : Int32} {x2 : Int32} {h hE : Zh} {rE : Int64} (hf : fX10_count r0 x1 x2 h = some (rE, hE)) : zC l yX10_count cX10_count 3 (some .long) 2 45 D cA base sA [.ref (base + r0), .int x1, .int x2] h (some (.long rE)) hE := by
  refine g_entry RX10 (by decide) rfl (Nat.le_of_ble_eq_true rfl) ?_
  intro p e s m args below meth c X hr
  unfold fX10_count at hf
  have hf := zlet_n (x := h) rfl hf
  show zG p l e { frames := 2, cells := 0, slots := 0, locals := 45 } s m args below meth c (MQ below (zQ D cA base h hE (some (.long rE))) args s 0 0 (zA base)) 3 D cA base h 0 [(0, .ref (base + r0)), (1, .int x1), (2, .int x2)] [] h
  refine g_aload_n X 0 dX10_count_0 rfl ?_
  obtain ⟨hk1, hf⟩ := zite hf
  obtain ⟨r_2, hr_2, hf⟩ := zbd hf
  refine g_get X zf10 hk1 3 (by decide) w_f_RX10_23 rfl (zfv_r hr_2 rfl) dX10_count_1 ?_
  obtain ⟨hk3, hf⟩ := zite hf
  refine g_get X zf9 hk3 0 (by decide) w_f_RX10_90 rfl rfl dX10_count_4 ?_
  refine g_if_ne X 17 dX10_count_7 (by decide) (fun hq => ?_) (fun hq => ?_)
  · have hf := zneg hq hf
    refine g_iload_n X 1 dX10_count_17 rfl ?_
    refine g_aload_n X 0 dX10_count_18 rfl ?_
    obtain ⟨r_4, hr_4, hf⟩ := zbd hf
    refine g_get X zf10 hk1 3 (by decide) w_f_RX10_23 rfl (zfv_r hr_4 rfl) dX10_count_19 ?_
    obtain ⟨hk5, hf⟩ := zite hf
    obtain ⟨r_6, hr_6, hf⟩ := zbd hf
    refine g_get X zf9 hk5 1 (by decide) w_f_RX10_94 rfl (zfv_r hr_6 rfl) dX10_count_22 ?_
    obtain ⟨hk7, hf⟩ := zite hf
    refine g_get X zf0 hk7 3 (by decide) w_f_RX10_110 rfl rfl dX10_count_25 ?_
    refine g_icmp_lt X 38 dX10_count_28 (by decide) (fun hq => ?_) (fun hq => ?_)
    · have hf := zpos hq hf
      refine g_aload_n X 0 dX10_count_38 rfl ?_
      refine g_iconst X (v := 2) dX10_count_39 (by decide) ?_
      obtain ⟨v9, h8, hch8, hf⟩ := zc2_e hf
      refine g_callV X 1 (sX10_refuse hch8) zf10 hk1 ydX10_refuse w_ml_RX10_56 w_instanceMethod_X10_refuse w_sel_X10_refuse w_ini_RX10 w_code_X10_refuse (by decide) rfl (st := []) rfl rfl (Nat.le_of_ble_eq_true rfl) dX10_count_40 ?_
      refine g_i2l X dX10_count_43 ?_
      obtain ⟨rfl, rfl⟩ := zsm hf
      exact g_lret X hr dX10_count_44
    · have hf := zneg hq hf
      refine g_iload_n X 1 dX10_count_31 rfl ?_
      refine g_sipush X (v := 200) dX10_count_32 (by decide) ?_
      refine g_icmp_le X 45 dX10_count_35 (by decide) (fun hq => ?_) (fun hq => ?_)
      · have hf := zpos hq hf
        refine g_aload_n X 0 dX10_count_45 rfl ?_
        refine g_iconst X (v := 0) dX10_count_46 (by decide) ?_
        refine g_putI X zf10 hk1 8 (by decide) w_f_RX10_87 rfl rfl rfl dX10_count_47 ?_
        refine g_hp (fun h10 eh10 => ?_)
        have hf := zlet_n eh10 hf
        refine g_iload_n X 2 dX10_count_50 rfl ?_
        refine g_if_eq X 68 dX10_count_51 (by decide) (fun hq => ?_) (fun hq => ?_)
        · have hf := zpos hq hf
          refine g_aload_n X 0 dX10_count_68 rfl ?_
          obtain ⟨r_11, hr_11, hf⟩ := zbd hf
          refine g_get X zf10 hk1 3 (by decide) w_f_RX10_23 rfl (zfv_r hr_11 rfl) dX10_count_69 ?_
          obtain ⟨hk12, hf⟩ := zite hf
          obtain ⟨r_13, hr_13, hf⟩ := zbd hf
          refine g_get X zf9 hk12 1 (by decide) w_f_RX10_94 rfl (zfv_r hr_13 rfl) dX10_count_72 ?_
          refine g_iload_n X 1 dX10_count_75 rfl ?_
          obtain ⟨hk14, hf⟩ := zite hf
          obtain ⟨v16, h15, hch15, hf⟩ := zc2_e hf
          refine g_callV X 1 (sX0_handsOf hch15) zf0 hk14 ydX0_handsOf w_ml_RX10_208 w_instanceMethod_X0_handsOf w_sel_X0_handsOf w_ini_RX0 w_code_X0_handsOf (by decide) rfl (st := []) rfl rfl (Nat.le_of_ble_eq_true rfl) dX10_count_76 ?_
          obtain ⟨rfl, rfl⟩ := zsm hf
          exact g_lret X hr dX10_count_79
        · have hf := zneg hq hf
          refine g_aload_n X 0 dX10_count_54 rfl ?_
          obtain ⟨r_17, hr_17, hf⟩ := zbd hf
          refine g_get X zf10 hk1 3 (by decide) w_f_RX10_23 rfl (zfv_r hr_17 rfl) dX10_count_55 ?_
          obtain ⟨hk18, hf⟩ := zite hf
          obtain ⟨r_19, hr_19, hf⟩ := zbd hf
          refine g_get X zf9 hk18 1 (by decide) w_f_RX10_94 rfl (zfv_r hr_19 rfl) dX10_count_58 ?_
          refine g_iload_n X 1 dX10_count_61 rfl ?_
          obtain ⟨hk20, hf⟩ := zite hf
          obtain ⟨v22, h21, hch21, hf⟩ := zc2_e hf
          refine g_callV X 1 (sX0_rowsOf hch21) zf0 hk20 ydX0_rowsOf w_ml_RX10_212 w_instanceMethod_X0_rowsOf w_sel_X0_rowsOf w_ini_RX0 w_code_X0_rowsOf (by decide) rfl (st := []) rfl rfl (Nat.le_of_ble_eq_true rfl) dX10_count_62 ?_
          refine g_goto X 79 dX10_count_65 (by decide) ?_
          obtain ⟨rfl, rfl⟩ := zsm hf
          exact g_lret X hr dX10_count_79
      · have hf := zneg hq hf
        refine g_aload_n X 0 dX10_count_38 rfl ?_
        refine g_iconst X (v := 2) dX10_count_39 (by decide) ?_
        obtain ⟨v24, h23, hch23, hf⟩ := zc2_e hf
        refine g_callV X 1 (sX10_refuse hch23) zf10 hk1 ydX10_refuse w_ml_RX10_56 w_instanceMethod_X10_refuse w_sel_X10_refuse w_ini_RX10 w_code_X10_refuse (by decide) rfl (st := []) rfl rfl (Nat.le_of_ble_eq_true rfl) dX10_count_40 ?_
        refine g_i2l X dX10_count_43 ?_
        obtain ⟨rfl, rfl⟩ := zsm hf
        exact g_lret X hr dX10_count_44
  · have hf := zpos hq hf
    refine g_aload_n X 0 dX10_count_10 rfl ?_
    refine g_iconst X (v := 1) dX10_count_11 (by decide) ?_
    obtain ⟨v26, h25, hch25, hf⟩ := zc2_e hf
    refine g_callV X 1 (sX10_refuse hch25) zf10 hk1 ydX10_refuse w_ml_RX10_56 w_instanceMethod_X10_refuse w_sel_X10_refuse w_ini_RX10 w_code_X10_refuse (by decide) rfl (st := []) rfl rfl (Nat.le_of_ble_eq_true rfl) dX10_count_12 ?_
    refine g_i2l X dX10_count_15 ?_
    obtain ⟨rfl, rfl⟩ := zsm hf
    exact g_lret X hr dX10_count_16

set_option maxHeartbeats 4000000 in
set_option maxRecDepth 100000 in
theorem sX10_most {l : Launch} {D : va_G} {cA : Nat → ClassId} {base : Nat} {sA : Nat → Nat} {r0 : Nat} {h hE : Zh} {rE : Int32} (hf : fX10_most r0 h = some (rE, hE)) : zC l yX10_most cX10_most 1 (some .int) 3 66 D cA base sA [.ref (base + r0)] h (some (.int rE)) hE := by
  refine g_entry RX10 (by decide) rfl (Nat.le_of_ble_eq_true rfl) ?_
  intro p e s m args below meth c X hr
  unfold fX10_most at hf
  have hf := zlet_n (x := h) rfl hf
  show zG p l e { frames := 3, cells := 0, slots := 0, locals := 66 } s m args below meth c (MQ below (zQ D cA base h hE (some (.int rE))) args s 0 0 (zA base)) 1 D cA base h 0 [(0, .ref (base + r0))] [] h
  refine g_aload_n X 0 dX10_most_0 rfl ?_
  obtain ⟨hk1, hf⟩ := zite hf
  obtain ⟨r_2, hr_2, hf⟩ := zbd hf
  refine g_get X zf10 hk1 3 (by decide) w_f_RX10_23 rfl (zfv_r hr_2 rfl) dX10_most_1 ?_
  obtain ⟨hk3, hf⟩ := zite hf
  refine g_get X zf9 hk3 0 (by decide) w_f_RX10_90 rfl rfl dX10_most_4 ?_
  refine g_if_ne X 16 dX10_most_7 (by decide) (fun hq => ?_) (fun hq => ?_)
  · have hf := zneg hq hf
    refine g_aload_n X 0 dX10_most_16 rfl ?_
    refine g_aload_n X 0 dX10_most_17 rfl ?_
    obtain ⟨r_4, hr_4, hf⟩ := zbd hf
    refine g_get X zf10 hk1 5 (by decide) w_f_RX10_33 rfl (zfv_r hr_4 rfl) dX10_most_18 ?_
    obtain ⟨hk5, hf⟩ := zite hf
    obtain ⟨v7, h6, hch6, hf⟩ := zc2_e hf
    refine g_callV X 0 (sX4_largestDeck hch6) zf4 hk5 ydX4_largestDeck w_ml_RX10_227 w_instanceMethod_X4_largestDeck w_sel_X4_largestDeck w_ini_RX4 w_code_X4_largestDeck (by decide) rfl (st := [.ref (base + r0)]) rfl rfl (Nat.le_of_ble_eq_true rfl) dX10_most_21 ?_
    obtain ⟨v9, h8, hch8, hf⟩ := zc2_e hf
    refine g_callV X 1 (sX10_answer hch8) zf10 hk1 ydX10_answer w_ml_RX10_84 w_instanceMethod_X10_answer w_sel_X10_answer w_ini_RX10 w_code_X10_answer (by decide) rfl (st := []) rfl rfl (Nat.le_of_ble_eq_true rfl) dX10_most_24 ?_
    obtain ⟨rfl, rfl⟩ := zsm hf
    exact g_iret X hr dX10_most_27
  · have hf := zpos hq hf
    refine g_aload_n X 0 dX10_most_10 rfl ?_
    refine g_iconst X (v := 1) dX10_most_11 (by decide) ?_
    obtain ⟨v11, h10, hch10, hf⟩ := zc2_e hf
    refine g_callV X 1 (sX10_refuse hch10) zf10 hk1 ydX10_refuse w_ml_RX10_56 w_instanceMethod_X10_refuse w_sel_X10_refuse w_ini_RX10 w_code_X10_refuse (by decide) rfl (st := []) rfl rfl (Nat.le_of_ble_eq_true rfl) dX10_most_12 ?_
    obtain ⟨rfl, rfl⟩ := zsm hf
    exact g_iret X hr dX10_most_15

set_option maxHeartbeats 4000000 in
set_option maxRecDepth 100000 in
theorem sX10_noEvening {l : Launch} {D : va_G} {cA : Nat → ClassId} {base : Nat} {sA : Nat → Nat} {r0 : Nat} {x1 : Int32} {h hE : Zh} {rE : Int32} (hf : fX10_noEvening r0 x1 h = some (rE, hE)) : zC l yX10_noEvening cX10_noEvening 2 (some .boolean) 0 0 D cA base sA [.ref (base + r0), .int x1] h (some (.int rE)) hE := by
  refine g_entry RX10 (by decide) rfl (Nat.le_of_ble_eq_true rfl) ?_
  intro p e s m args below meth c X hr
  unfold fX10_noEvening at hf
  have hf := zlet_n (x := h) rfl hf
  show zG p l e { frames := 0, cells := 0, slots := 0, locals := 0 } s m args below meth c (MQ below (zQ D cA base h hE (some (.int rE))) args s 0 0 (zA base)) 2 D cA base h 0 [(0, .ref (base + r0)), (1, .int x1)] [] h
  refine g_iload_n X 1 dX10_noEvening_0 rfl ?_
  refine g_if_lt X 18 dX10_noEvening_1 (by decide) (fun hq => ?_) (fun hq => ?_)
  · have hf := zpos hq hf
    refine g_iconst X (v := 1) dX10_noEvening_18 (by decide) ?_
    refine g_goto X 23 dX10_noEvening_19 (by decide) ?_
    obtain ⟨rfl, rfl⟩ := zsm hf
    exact g_zret X (Or.inr rfl) hr dX10_noEvening_23
  · have hf := zneg hq hf
    refine g_iload_n X 1 dX10_noEvening_4 rfl ?_
    refine g_aload_n X 0 dX10_noEvening_5 rfl ?_
    obtain ⟨hk1, hf⟩ := zite hf
    obtain ⟨r_2, hr_2, hf⟩ := zbd hf
    refine g_get X zf10 hk1 3 (by decide) w_f_RX10_23 rfl (zfv_r hr_2 rfl) dX10_noEvening_6 ?_
    obtain ⟨hk3, hf⟩ := zite hf
    obtain ⟨r_4, hr_4, hf⟩ := zbd hf
    refine g_get X zf9 hk3 4 (by decide) w_f_RX10_233 rfl (zfv_r hr_4 rfl) dX10_noEvening_9 ?_
    obtain ⟨hk5, hf⟩ := zite hf
    refine g_get X zf1 hk5 2 (by decide) w_f_RX10_239 rfl rfl dX10_noEvening_12 ?_
    refine g_icmp_lt X 22 dX10_noEvening_15 (by decide) (fun hq => ?_) (fun hq => ?_)
    · have hf := zpos hq hf
      refine g_iconst X (v := 0) dX10_noEvening_22 (by decide) ?_
      obtain ⟨rfl, rfl⟩ := zsm hf
      exact g_zret X (Or.inl rfl) hr dX10_noEvening_23
    · have hf := zneg hq hf
      refine g_iconst X (v := 1) dX10_noEvening_18 (by decide) ?_
      refine g_goto X 23 dX10_noEvening_19 (by decide) ?_
      obtain ⟨rfl, rfl⟩ := zsm hf
      exact g_zret X (Or.inr rfl) hr dX10_noEvening_23

set_option maxHeartbeats 4000000 in
set_option maxRecDepth 100000 in
theorem sX10_judge {l : Launch} {D : va_G} {cA : Nat → ClassId} {base : Nat} {sA : Nat → Nat} {r0 : Nat} {x1 : Int32} {h hE : Zh} {rE : Int32} (hf : fX10_judge r0 x1 h = some (rE, hE)) : zC l yX10_judge cX10_judge 2 (some .int) 4 92 D cA base sA [.ref (base + r0), .int x1] h (some (.int rE)) hE := by
  refine g_entry RX10 (by decide) rfl (Nat.le_of_ble_eq_true rfl) ?_
  intro p e s m args below meth c X hr
  unfold fX10_judge at hf
  have hf := zlet_n (x := h) rfl hf
  show zG p l e { frames := 4, cells := 0, slots := 0, locals := 92 } s m args below meth c (MQ below (zQ D cA base h hE (some (.int rE))) args s 0 0 (zA base)) 2 D cA base h 0 [(0, .ref (base + r0)), (1, .int x1)] [] h
  refine g_aload_n X 0 dX10_judge_0 rfl ?_
  refine g_iload_n X 1 dX10_judge_1 rfl ?_
  obtain ⟨hk1, hf⟩ := zite hf
  obtain ⟨v3, h2, hch2, hf⟩ := zc2_e hf
  refine g_callV X 1 (sX10_noEvening hch2) zf10 hk1 ydX10_noEvening w_ml_RX10_230 w_instanceMethod_X10_noEvening w_sel_X10_noEvening w_ini_RX10 w_code_X10_noEvening (by decide) rfl (st := []) rfl rfl (Nat.le_of_ble_eq_true rfl) dX10_judge_2 ?_
  refine g_if_eq X 14 dX10_judge_5 (by decide) (fun hq => ?_) (fun hq => ?_)
  · have hf := zpos hq hf
    refine g_aload_n X 0 dX10_judge_14 rfl ?_
    refine g_aload_n X 0 dX10_judge_15 rfl ?_
    refine g_aload_n X 0 dX10_judge_16 rfl ?_
    obtain ⟨r_4, hr_4, hf⟩ := zbd hf
    refine g_get X zf10 hk1 3 (by decide) w_f_RX10_23 rfl (zfv_r hr_4 rfl) dX10_judge_17 ?_
    obtain ⟨hk5, hf⟩ := zite hf
    obtain ⟨r_6, hr_6, hf⟩ := zbd hf
    refine g_get X zf9 hk5 4 (by decide) w_f_RX10_233 rfl (zfv_r hr_6 rfl) dX10_judge_20 ?_
    obtain ⟨hk7, hf⟩ := zite hf
    obtain ⟨r_8, hr_8, hf⟩ := zbd hf
    refine g_get X zf1 hk7 0 (by decide) w_f_RX10_237 rfl (zfv_r hr_8 rfl) dX10_judge_23 ?_
    refine g_iload_n X 1 dX10_judge_26 rfl ?_
    obtain ⟨hk9, hf⟩ := zite hf
    obtain ⟨hi10, hf⟩ := zite hf
    refine g_iald X hk9 hi10 dX10_judge_27 ?_
    refine g_aload_n X 0 dX10_judge_28 rfl ?_
    obtain ⟨r_11, hr_11, hf⟩ := zbd hf
    refine g_get X zf10 hk1 3 (by decide) w_f_RX10_23 rfl (zfv_r hr_11 rfl) dX10_judge_29 ?_
    obtain ⟨hk12, hf⟩ := zite hf
    obtain ⟨r_13, hr_13, hf⟩ := zbd hf
    refine g_get X zf9 hk12 4 (by decide) w_f_RX10_233 rfl (zfv_r hr_13 rfl) dX10_judge_32 ?_
    obtain ⟨hk14, hf⟩ := zite hf
    obtain ⟨r_15, hr_15, hf⟩ := zbd hf
    refine g_get X zf1 hk14 1 (by decide) w_f_RX10_238 rfl (zfv_r hr_15 rfl) dX10_judge_35 ?_
    refine g_iload_n X 1 dX10_judge_38 rfl ?_
    obtain ⟨hk16, hf⟩ := zite hf
    obtain ⟨hi17, hf⟩ := zite hf
    refine g_iald X hk16 hi17 dX10_judge_39 ?_
    obtain ⟨v19, h18, hch18, hf⟩ := zc2_e hf
    refine g_callV X 2 (sX10_fitsHand hch18) zf10 hk1 ydX10_fitsHand w_ml_RX10_141 w_instanceMethod_X10_fitsHand w_sel_X10_fitsHand w_ini_RX10 w_code_X10_fitsHand (by decide) rfl (st := [.ref (base + r0)]) rfl rfl (Nat.le_of_ble_eq_true rfl) dX10_judge_40 ?_
    obtain ⟨v21, h20, hch20, hf⟩ := zc2_e hf
    refine g_callV X 1 (sX10_answerWhether hch20) zf10 hk1 ydX10_answerWhether w_ml_RX10_145 w_instanceMethod_X10_answerWhether w_sel_X10_answerWhether w_ini_RX10 w_code_X10_answerWhether (by decide) rfl (st := []) rfl rfl (Nat.le_of_ble_eq_true rfl) dX10_judge_43 ?_
    obtain ⟨rfl, rfl⟩ := zsm hf
    exact g_iret X hr dX10_judge_46
  · have hf := zneg hq hf
    refine g_aload_n X 0 dX10_judge_8 rfl ?_
    refine g_iconst X (v := 1) dX10_judge_9 (by decide) ?_
    obtain ⟨v23, h22, hch22, hf⟩ := zc2_e hf
    refine g_callV X 1 (sX10_refuse hch22) zf10 hk1 ydX10_refuse w_ml_RX10_56 w_instanceMethod_X10_refuse w_sel_X10_refuse w_ini_RX10 w_code_X10_refuse (by decide) rfl (st := []) rfl rfl (Nat.le_of_ble_eq_true rfl) dX10_judge_10 ?_
    obtain ⟨rfl, rfl⟩ := zsm hf
    exact g_iret X hr dX10_judge_13

set_option maxHeartbeats 4000000 in
set_option maxRecDepth 100000 in
theorem sX10_evening {l : Launch} {D : va_G} {cA : Nat → ClassId} {base : Nat} {sA : Nat → Nat} {r0 : Nat} {x1 : Int32} {x2 : Int32} {h hE : Zh} {rE : Int32} (hf : fX10_evening r0 x1 x2 h = some (rE, hE)) : zC l yX10_evening cX10_evening 3 (some .int) 1 21 D cA base sA [.ref (base + r0), .int x1, .int x2] h (some (.int rE)) hE := by
  refine g_entry RX10 (by decide) rfl (Nat.le_of_ble_eq_true rfl) ?_
  intro p e s m args below meth c X hr
  unfold fX10_evening at hf
  have hf := zlet_n (x := h) rfl hf
  show zG p l e { frames := 1, cells := 0, slots := 0, locals := 21 } s m args below meth c (MQ below (zQ D cA base h hE (some (.int rE))) args s 0 0 (zA base)) 3 D cA base h 0 [(0, .ref (base + r0)), (1, .int x1), (2, .int x2)] [] h
  refine g_aload_n X 0 dX10_evening_0 rfl ?_
  refine g_iload_n X 1 dX10_evening_1 rfl ?_
  obtain ⟨hk1, hf⟩ := zite hf
  obtain ⟨v3, h2, hch2, hf⟩ := zc2_e hf
  refine g_callV X 1 (sX10_noEvening hch2) zf10 hk1 ydX10_noEvening w_ml_RX10_230 w_instanceMethod_X10_noEvening w_sel_X10_noEvening w_ini_RX10 w_code_X10_noEvening (by decide) rfl (st := []) rfl rfl (Nat.le_of_ble_eq_true rfl) dX10_evening_2 ?_
  refine g_if_eq X 14 dX10_evening_5 (by decide) (fun hq => ?_) (fun hq => ?_)
  · have hf := zpos hq hf
    refine g_aload_n X 0 dX10_evening_14 rfl ?_
    refine g_iload_n X 2 dX10_evening_15 rfl ?_
    refine g_if_eq X 34 dX10_evening_16 (by decide) (fun hq => ?_) (fun hq => ?_)
    · have hf := zpos hq hf
      refine g_aload_n X 0 dX10_evening_34 rfl ?_
      obtain ⟨r_4, hr_4, hf⟩ := zbd hf
      refine g_get X zf10 hk1 3 (by decide) w_f_RX10_23 rfl (zfv_r hr_4 rfl) dX10_evening_35 ?_
      obtain ⟨hk5, hf⟩ := zite hf
      obtain ⟨r_6, hr_6, hf⟩ := zbd hf
      refine g_get X zf9 hk5 4 (by decide) w_f_RX10_233 rfl (zfv_r hr_6 rfl) dX10_evening_38 ?_
      obtain ⟨hk7, hf⟩ := zite hf
      obtain ⟨r_8, hr_8, hf⟩ := zbd hf
      refine g_get X zf1 hk7 0 (by decide) w_f_RX10_237 rfl (zfv_r hr_8 rfl) dX10_evening_41 ?_
      refine g_iload_n X 1 dX10_evening_44 rfl ?_
      obtain ⟨hk9, hf⟩ := zite hf
      obtain ⟨hi10, hf⟩ := zite hf
      refine g_iald X hk9 hi10 dX10_evening_45 ?_
      obtain ⟨v12, h11, hch11, hf⟩ := zc2_e hf
      refine g_callV X 1 (sX10_answer hch11) zf10 hk1 ydX10_answer w_ml_RX10_84 w_instanceMethod_X10_answer w_sel_X10_answer w_ini_RX10 w_code_X10_answer (by decide) rfl (st := []) rfl rfl (Nat.le_of_ble_eq_true rfl) dX10_evening_46 ?_
      obtain ⟨rfl, rfl⟩ := zsm hf
      exact g_iret X hr dX10_evening_49
    · have hf := zneg hq hf
      refine g_aload_n X 0 dX10_evening_19 rfl ?_
      obtain ⟨r_13, hr_13, hf⟩ := zbd hf
      refine g_get X zf10 hk1 3 (by decide) w_f_RX10_23 rfl (zfv_r hr_13 rfl) dX10_evening_20 ?_
      obtain ⟨hk14, hf⟩ := zite hf
      obtain ⟨r_15, hr_15, hf⟩ := zbd hf
      refine g_get X zf9 hk14 4 (by decide) w_f_RX10_233 rfl (zfv_r hr_15 rfl) dX10_evening_23 ?_
      obtain ⟨hk16, hf⟩ := zite hf
      obtain ⟨r_17, hr_17, hf⟩ := zbd hf
      refine g_get X zf1 hk16 1 (by decide) w_f_RX10_238 rfl (zfv_r hr_17 rfl) dX10_evening_26 ?_
      refine g_iload_n X 1 dX10_evening_29 rfl ?_
      obtain ⟨hk18, hf⟩ := zite hf
      obtain ⟨hi19, hf⟩ := zite hf
      refine g_iald X hk18 hi19 dX10_evening_30 ?_
      refine g_goto X 46 dX10_evening_31 (by decide) ?_
      obtain ⟨v21, h20, hch20, hf⟩ := zc2_e hf
      refine g_callV X 1 (sX10_answer hch20) zf10 hk1 ydX10_answer w_ml_RX10_84 w_instanceMethod_X10_answer w_sel_X10_answer w_ini_RX10 w_code_X10_answer (by decide) rfl (st := []) rfl rfl (Nat.le_of_ble_eq_true rfl) dX10_evening_46 ?_
      obtain ⟨rfl, rfl⟩ := zsm hf
      exact g_iret X hr dX10_evening_49
  · have hf := zneg hq hf
    refine g_aload_n X 0 dX10_evening_8 rfl ?_
    refine g_iconst X (v := 1) dX10_evening_9 (by decide) ?_
    obtain ⟨v23, h22, hch22, hf⟩ := zc2_e hf
    refine g_callV X 1 (sX10_refuse hch22) zf10 hk1 ydX10_refuse w_ml_RX10_56 w_instanceMethod_X10_refuse w_sel_X10_refuse w_ini_RX10 w_code_X10_refuse (by decide) rfl (st := []) rfl rfl (Nat.le_of_ble_eq_true rfl) dX10_evening_10 ?_
    obtain ⟨rfl, rfl⟩ := zsm hf
    exact g_iret X hr dX10_evening_13

set_option maxHeartbeats 4000000 in
set_option maxRecDepth 100000 in
theorem sX10_isAgreed {l : Launch} {D : va_G} {cA : Nat → ClassId} {base : Nat} {sA : Nat → Nat} {r0 : Nat} {r1 : Nat} {x2 : Int32} {h hE : Zh} {rE : Int32} (hf : fX10_isAgreed r0 r1 x2 h = some (rE, hE)) : zC l yX10_isAgreed cX10_isAgreed 3 (some .boolean) 0 0 D cA base sA [.ref (base + r0), .ref (base + r1), .int x2] h (some (.int rE)) hE := by
  refine g_entry RX10 (by decide) rfl (Nat.le_of_ble_eq_true rfl) ?_
  intro p e s m args below meth c X hr
  unfold fX10_isAgreed at hf
  have hf := zlet_n (x := h) rfl hf
  show zG p l e { frames := 0, cells := 0, slots := 0, locals := 0 } s m args below meth c (MQ below (zQ D cA base h hE (some (.int rE))) args s 0 0 (zA base)) 3 D cA base h 0 [(0, .ref (base + r0)), (1, .ref (base + r1)), (2, .int x2)] [] h
  refine g_aload_n X 1 dX10_isAgreed_0 rfl ?_
  refine g_aload_n X 0 dX10_isAgreed_1 rfl ?_
  obtain ⟨hk1, hf⟩ := zite hf
  obtain ⟨r_2, hr_2, hf⟩ := zbd hf
  refine g_get X zf10 hk1 3 (by decide) w_f_RX10_23 rfl (zfv_r hr_2 rfl) dX10_isAgreed_2 ?_
  obtain ⟨hk3, hf⟩ := zite hf
  obtain ⟨r_4, hr_4, hf⟩ := zbd hf
  refine g_get X zf9 hk3 4 (by decide) w_f_RX10_233 rfl (zfv_r hr_4 rfl) dX10_isAgreed_5 ?_
  obtain ⟨hk5, hf⟩ := zite hf
  obtain ⟨r_6, hr_6, hf⟩ := zbd hf
  refine g_get X zf1 hk5 0 (by decide) w_f_RX10_237 rfl (zfv_r hr_6 rfl) dX10_isAgreed_8 ?_
  refine g_iload_n X 2 dX10_isAgreed_11 rfl ?_
  obtain ⟨hk7, hf⟩ := zite hf
  obtain ⟨hi8, hf⟩ := zite hf
  refine g_iald X hk7 hi8 dX10_isAgreed_12 ?_
  obtain ⟨hk9, hf⟩ := zite hf
  obtain ⟨hi10, hf⟩ := zite hf
  refine g_iald X hk9 hi10 dX10_isAgreed_13 ?_
  refine g_aload_n X 0 dX10_isAgreed_14 rfl ?_
  obtain ⟨r_11, hr_11, hf⟩ := zbd hf
  refine g_get X zf10 hk1 3 (by decide) w_f_RX10_23 rfl (zfv_r hr_11 rfl) dX10_isAgreed_15 ?_
  obtain ⟨hk12, hf⟩ := zite hf
  obtain ⟨r_13, hr_13, hf⟩ := zbd hf
  refine g_get X zf9 hk12 4 (by decide) w_f_RX10_233 rfl (zfv_r hr_13 rfl) dX10_isAgreed_18 ?_
  obtain ⟨hk14, hf⟩ := zite hf
  obtain ⟨r_15, hr_15, hf⟩ := zbd hf
  refine g_get X zf1 hk14 1 (by decide) w_f_RX10_238 rfl (zfv_r hr_15 rfl) dX10_isAgreed_21 ?_
  refine g_iload_n X 2 dX10_isAgreed_24 rfl ?_
  obtain ⟨hk16, hf⟩ := zite hf
  obtain ⟨hi17, hf⟩ := zite hf
  refine g_iald X hk16 hi17 dX10_isAgreed_25 ?_
  refine g_icmp_ne X 33 dX10_isAgreed_26 (by decide) (fun hq => ?_) (fun hq => ?_)
  · have hf := zneg hq hf
    refine g_iconst X (v := 0) dX10_isAgreed_33 (by decide) ?_
    obtain ⟨rfl, rfl⟩ := zsm hf
    exact g_zret X (Or.inl rfl) hr dX10_isAgreed_34
  · have hf := zpos hq hf
    refine g_iconst X (v := 1) dX10_isAgreed_29 (by decide) ?_
    refine g_goto X 34 dX10_isAgreed_30 (by decide) ?_
    obtain ⟨rfl, rfl⟩ := zsm hf
    exact g_zret X (Or.inr rfl) hr dX10_isAgreed_34

