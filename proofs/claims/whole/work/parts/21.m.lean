/-! FifthCardModel hands -/
def fX12_hands (r0 : Nat) (h : Zh) : Option (Int32 × Zh) := zlet h fun g =>
  if zK g r0 = 12 then zlet (zsI h r0 0 ((0 : Int32))) fun h2 => if (zR h2 r0 3).isSome = true then zc2 (fX12_good r0 (zI h2 r0 17) h2) fun v4 h3 => some (v4, h3) else zc2 (fX12_refused r0 ((1 : Int32)) h2) fun v6 h5 => some (v6, h5) else none
/-! FifthCardModel rows -/
def fX12_rows (r0 : Nat) (h : Zh) : Option (Int32 × Zh) := zlet h fun g =>
  if zK g r0 = 12 then zlet (zsI h r0 0 ((0 : Int32))) fun h2 => if (zR h2 r0 3).isSome = true then zc2 (fX12_rowMany r0 h2) fun v4 h3 => zc2 (fX12_good r0 v4 h3) fun v6 h5 => some (v6, h5) else zc2 (fX12_refused r0 ((1 : Int32)) h2) fun v8 h7 => some (v8, h7) else none
/-! FifthCardModel hand -/
def fX12_hand (r0 : Nat) (x1 : Int32) (x2 : Int32) (h : Zh) : Option (Int32 × Zh) := zlet h fun g =>
  if zK g r0 = 12 then zlet (zsI h r0 0 ((0 : Int32))) fun h2 => zc2 (fX12_isHand r0 x1 h2) fun v4 h3 => if v4 = 0 then zc2 (fX12_refused r0 ((1 : Int32)) h3) fun v6 h5 => some (v6, h5) else (zR h3 r0 3).bind fun r_7 => if zK g r_7 = 11 then zc2 (fX12_in x2 ((0 : Int32)) ((zI h3 r_7 2) - ((1 : Int32))) h3) fun v10 h9 => if v10 = 0 then zc2 (fX12_refused r0 ((1 : Int32)) h9) fun v12 h11 => some (v12, h11) else zc2 (fX12_cardOf r0 x1 x2 h9) fun v14 h13 => zc2 (fX12_good r0 v14 h13) fun v16 h15 => some (v16, h15) else none else none
/-! FifthCardModel handOf -/
def bX12_handOf_114 (g : Zh) (r0 : Nat) (r6 : Nat) (x7 : Int32) (x8 : Int32) (h : Zh) : Option (Nat × Int32 × Zh) :=
  if x7 ≤ x8 then some (2, (x8, h)) else (zR h r0 3).bind fun r_18 => if zK g r_18 = 11 then if (zI h r_18 2) ≤ x7 then some (2, (x8, h)) else if zin x8 (zL g r6) then if zin x7 (zL g r6) then if (zI h r6 x8.toNatClampNeg) = (zI h r6 x7.toNatClampNeg) then some (1, (x8, h)) else zlet (x8 + (1 : Int32)) fun y22 => some (0, (y22, h)) else none else none else none
def kX12_handOf_114 (g : Zh) (r0 : Nat) (r6 : Nat) (x7 : Int32) (e : Nat) (x8 : Int32) (h : Zh) : Option (Nat × Int32 × Zh) :=
  if e = 1 then some (3, (0, h)) else zlet (x7 + (1 : Int32)) fun y23 => some (0, (y23, h))
def jX12_handOf_111 (g : Zh) (r0 : Nat) (r6 : Nat) (x7 : Int32) (h : Zh) : Option (Nat × Int32 × Zh) :=
  (lp (fun q : Int32 × Zh => bX12_handOf_114 g r0 r6 x7 q.1 q.2) zB ((0 : Int32), h)).bind fun q => kX12_handOf_114 g r0 r6 x7 q.1 q.2.1 q.2.2
def bX12_handOf_54 (g : Zh) (r0 : Nat) (r6 : Nat) (x7 : Int32) (h : Zh) : Option (Nat × Int32 × Zh) :=
  if ((5 : Int32)) ≤ x7 then some (4, (x7, h)) else (zR h r0 3).bind fun r_15 => if zK g r_15 = 11 then if (zI h r_15 2) ≤ x7 then if zin x7 (zL g r6) then if (zI h r6 x7.toNatClampNeg) = ((-1 : Int32)) then jX12_handOf_111 g r0 r6 x7 h else some (2, (x7, h)) else none else if zin x7 (zL g r6) then (zR h r0 3).bind fun r_25 => if zK g r_25 = 11 then zc2 (fX12_in (zI h r6 x7.toNatClampNeg) ((0 : Int32)) ((zI h r_25 0) - ((1 : Int32))) h) fun v28 h27 => if v28 = 0 then some (1, (x7, h27)) else jX12_handOf_111 g r0 r6 x7 h27 else none else none else none
def kX12_handOf_54 (g : Zh) (r0 : Nat) (r6 : Nat) (e : Nat) (x7 : Int32) (h : Zh) : Option (Int32 × Zh) :=
  if e = 1 then zc2 (fX12_refused r0 ((2 : Int32)) h) fun v30 h29 => some (v30, h29) else if e = 2 then zc2 (fX12_refused r0 ((2 : Int32)) h) fun v32 h31 => some (v32, h31) else if e = 3 then zc2 (fX12_refused r0 ((2 : Int32)) h) fun v34 h33 => some (v34, h33) else zc2 (fX12_handNumber r0 r6 ((0 : Int32)) h) fun v36 h35 => zc2 (fX12_good r0 v36 h35) fun v38 h37 => some (v38, h37)
def fX12_handOf (r0 : Nat) (x1 : Int32) (x2 : Int32) (x3 : Int32) (x4 : Int32) (x5 : Int32) (h : Zh) : Option (Int32 × Zh) := zlet h fun g =>
  if zK g r0 = 12 then zlet (zsI h r0 0 ((0 : Int32))) fun h2 => if (zR h2 r0 3).isSome = true then (zR h2 r0 18).bind fun r_3 => if zK g r_3 = 100 then if zin ((0 : Int32)) (zL g r_3) then zlet (zsI h2 r_3 ((0 : Int32)).toNatClampNeg x1) fun h6 => if zin ((1 : Int32)) (zL g r_3) then zlet (zsI h6 r_3 ((1 : Int32)).toNatClampNeg x2) fun h8 => if zin ((2 : Int32)) (zL g r_3) then zlet (zsI h8 r_3 ((2 : Int32)).toNatClampNeg x3) fun h10 => if zin ((3 : Int32)) (zL g r_3) then zlet (zsI h10 r_3 ((3 : Int32)).toNatClampNeg x4) fun h12 => if zin ((4 : Int32)) (zL g r_3) then zlet (zsI h12 r_3 ((4 : Int32)).toNatClampNeg x5) fun h14 => (lp (fun q : Int32 × Zh => bX12_handOf_54 g r0 r_3 q.1 q.2) zB ((0 : Int32), h14)).bind fun q => kX12_handOf_54 g r0 r_3 q.1 q.2.1 q.2.2 else none else none else none else none else none else none else zc2 (fX12_refused r0 ((1 : Int32)) h2) fun v40 h39 => some (v40, h39) else none
/-! FifthCardModel row -/
def fX12_row (r0 : Nat) (x1 : Int32) (x2 : Int32) (h : Zh) : Option (Int32 × Zh) := zlet h fun g =>
  if zK g r0 = 12 then zlet (zsI h r0 0 ((0 : Int32))) fun h2 => zc2 (fX12_isRow r0 x1 h2) fun v4 h3 => if v4 = 0 then zc2 (fX12_refused r0 ((1 : Int32)) h3) fun v6 h5 => some (v6, h5) else (zR h3 r0 3).bind fun r_7 => if zK g r_7 = 11 then zc2 (fX12_in x2 ((0 : Int32)) ((zI h3 r_7 4) - ((1 : Int32))) h3) fun v10 h9 => if v10 = 0 then zc2 (fX12_refused r0 ((1 : Int32)) h9) fun v19 h18 => some (v19, h18) else (zR h9 r0 19).bind fun r_11 => (fX12_rowCards r0 x1 r_11 h9).bind fun h12 => (zR h12 r0 19).bind fun r_13 => if zK g r_13 = 100 then if zin x2 (zL g r_13) then zc2 (fX12_good r0 (zI h12 r_13 x2.toNatClampNeg) h12) fun v17 h16 => some (v17, h16) else none else none else none else none
/-! FifthCardModel tilted -/
def fX12_tilted (r0 : Nat) (x1 : Int32) (h : Zh) : Option (Int32 × Zh) := zlet h fun g =>
  if zK g r0 = 12 then zlet (zsI h r0 0 ((0 : Int32))) fun h2 => zc2 (fX12_isRow r0 x1 h2) fun v4 h3 => if v4 = 0 then zc2 (fX12_refused r0 ((1 : Int32)) h3) fun v6 h5 => some (v6, h5) else (zR h3 r0 3).bind fun r_7 => if zK g r_7 = 11 then zc2 (fX11_tilts r_7 h3) fun v10 h9 => if ¬ v10 = 0 then zc2 (fX12_good r0 (zrem x1 v10) h9) fun v13 h12 => some (v13, h12) else none else none else none
/-! FifthCardModel rowFits -/
def bX12_rowFits_90 (g : Zh) (r0 : Nat) (x1 : Int32) (x4 : Int32) (x3 : Int32) (h : Zh) : Option (Nat × Int32 × Zh) :=
  (zR h r0 3).bind fun r_15 => if zK g r_15 = 11 then if (zI h r_15 2) ≤ x3 then some (1, (x3, h)) else zc2 (fX12_cardOf r0 x1 x3 h) fun v18 h17 => (zR h17 r0 19).bind fun r_19 => if zK g r_19 = 100 then if zin x4 (zL g r_19) then if v18 = (zI h17 r_19 x4.toNatClampNeg) then some (1, (x3, h17)) else zlet (x3 + (1 : Int32)) fun y22 => some (0, (y22, h17)) else none else none else none
def kX12_rowFits_90 (g : Zh) (r0 : Nat) (x1 : Int32) (x4 : Int32) (e : Nat) (x3 : Int32) (h : Zh) : Option (Nat × Int32 × Int32 × Zh) :=
  (zR h r0 3).bind fun r_23 => if zK g r_23 = 11 then if x3 = (zI h r_23 2) then some (2, (x3, (x4, h))) else zlet (x4 + (1 : Int32)) fun y25 => some (0, (x3, (y25, h))) else none
def jX12_rowFits_77 (g : Zh) (r0 : Nat) (x1 : Int32) (x3 : Int32) (x4 : Int32) (h : Zh) : Option (Nat × Int32 × Int32 × Zh) :=
  (zR h r0 3).bind fun r_13 => if zK g r_13 = 11 then if (zI h r_13 7) = 0 then zlet (x4 + (1 : Int32)) fun y26 => some (0, (x3, (y26, h))) else (lp (fun q : Int32 × Zh => bX12_rowFits_90 g r0 x1 x4 q.1 q.2) zB (x3, h)).bind fun q => kX12_rowFits_90 g r0 x1 x4 q.1 q.2.1 q.2.2 else none
def bX12_rowFits_14 (g : Zh) (r0 : Nat) (x1 : Int32) (x3 : Int32) (x4 : Int32) (h : Zh) : Option (Nat × Int32 × Int32 × Zh) :=
  (zR h r0 3).bind fun r_4 => if zK g r_4 = 11 then if (zI h r_4 4) ≤ x4 then some (3, (x3, (x4, h))) else (zR h r0 19).bind fun r_6 => if zK g r_6 = 100 then if zin x4 (zL g r_6) then zc2 (fX12_has r0 x1 (zI h r_6 x4.toNatClampNeg) h) fun v10 h9 => if v10 = 0 then some (1, (x3, (x4, h9))) else (zR h9 r0 3).bind fun r_11 => if zK g r_11 = 11 then if (zI h9 r_11 8) = 0 then jX12_rowFits_77 g r0 x1 x3 x4 h9 else if x4 ≤ 0 then jX12_rowFits_77 g r0 x1 x3 x4 h9 else (zR h9 r0 19).bind fun r_27 => if zK g r_27 = 100 then if zin x4 (zL g r_27) then (zR h9 r0 19).bind fun r_30 => if zK g r_30 = 100 then if zin (x4 - ((1 : Int32))) (zL g r_30) then if (zI h9 r_30 (x4 - ((1 : Int32))).toNatClampNeg) ≤ (zI h9 r_27 x4.toNatClampNeg) then jX12_rowFits_77 g r0 x1 x3 x4 h9 else some (1, (x3, (x4, h9))) else none else none else none else none else none else none else none else none
def kX12_rowFits_14 (g : Zh)  (e : Nat) (x3 : Int32) (x4 : Int32) (h : Zh) : Option (Int32 × Zh) :=
  if e = 1 then some ((0 : Int32), h) else if e = 2 then some ((0 : Int32), h) else some ((1 : Int32), h)
def fX12_rowFits (r0 : Nat) (x1 : Int32) (x2 : Int32) (h : Zh) : Option (Int32 × Zh) := zlet h fun g =>
  if zK g r0 = 12 then (zR h r0 19).bind fun r_2 => (fX12_rowCards r0 x2 r_2 h).bind fun h3 => (lp (fun q : Int32 × Int32 × Zh => bX12_rowFits_14 g r0 x1 q.1 q.2.1 q.2.2) zB ((0 : Int32), ((0 : Int32), h3))).bind fun q => kX12_rowFits_14 g q.1 q.2.1 q.2.2.1 q.2.2.2 else none
/-! FifthCardModel fits -/
def fX12_fits (r0 : Nat) (x1 : Int32) (x2 : Int32) (h : Zh) : Option (Int32 × Zh) := zlet h fun g =>
  if zK g r0 = 12 then zlet (zsI h r0 0 ((0 : Int32))) fun h2 => zc2 (fX12_isHand r0 x1 h2) fun v4 h3 => if v4 = 0 then zc2 (fX12_refused r0 ((1 : Int32)) h3) fun v6 h5 => some (v6, h5) else zc2 (fX12_isRow r0 x2 h3) fun v8 h7 => if v8 = 0 then zc2 (fX12_refused r0 ((1 : Int32)) h7) fun v10 h9 => some (v10, h9) else zc2 (fX12_rowFits r0 x1 x2 h7) fun v12 h11 => if v12 = 0 then zc2 (fX12_good r0 ((0 : Int32)) h11) fun v14 h13 => some (v14, h13) else zc2 (fX12_good r0 ((1 : Int32)) h11) fun v16 h15 => some (v16, h15) else none
/-! FifthCardModel isOneOrder -/
def fX12_isOneOrder (r0 : Nat) (h : Zh) : Option (Int32 × Zh) := zlet h fun g =>
  if zK g r0 = 12 then (zR h r0 3).bind fun r_2 => if zK g r_2 = 11 then if (zI h r_2 8) = 0 then (zR h r0 3).bind fun r_4 => if zK g r_4 = 11 then if (zI h r_4 7) = 0 then some ((0 : Int32), h) else some ((1 : Int32), h) else none else some ((1 : Int32), h) else none else none
/-! FifthCardModel fittingMany -/
def fX12_fittingMany (r0 : Nat) (h : Zh) : Option (Int32 × Zh) := zlet h fun g =>
  if zK g r0 = 12 then zc2 (fX12_isOneOrder r0 h) fun v3 h2 => if v3 = 0 then (zR h2 r0 3).bind fun r_4 => if zK g r_4 = 11 then (zR h2 r0 3).bind fun r_6 => if zK g r_6 = 11 then zc2 (fX12_rowsOf (zI h2 r_4 2) (zI h2 r_6 4) h2) fun v9 h8 => (zR h8 r0 3).bind fun r_10 => if zK g r_10 = 11 then zc2 (fX11_tilts r_10 h8) fun v13 h12 => some (v9.toInt32 * v13, h12) else none else none else none else (zR h2 r0 3).bind fun r_14 => if zK g r_14 = 11 then (zR h2 r0 3).bind fun r_16 => if zK g r_16 = 11 then zc2 (fX12_setsOf (zI h2 r_14 2) (zI h2 r_16 4) h2) fun v19 h18 => (zR h18 r0 3).bind fun r_20 => if zK g r_20 = 11 then zc2 (fX11_tilts r_20 h18) fun v23 h22 => some (v19.toInt32 * v23, h22) else none else none else none else none
/-! FifthCardModel fitting -/
def fX12_fitting (r0 : Nat) (h : Zh) : Option (Int32 × Zh) := zlet h fun g =>
  if zK g r0 = 12 then zlet (zsI h r0 0 ((0 : Int32))) fun h2 => if (zR h2 r0 3).isSome = true then zc2 (fX12_fittingMany r0 h2) fun v4 h3 => zc2 (fX12_good r0 v4 h3) fun v6 h5 => some (v6, h5) else zc2 (fX12_refused r0 ((1 : Int32)) h2) fun v8 h7 => some (v8, h7) else none
theorem dX12_hands_0 : decode cX12_hands 0 = .ok (.aload_n 0, 1) := by decide +kernel
theorem dX12_hands_1 : decode cX12_hands 1 = .ok (.iconst 0, 1) := by decide +kernel
theorem dX12_hands_2 : decode cX12_hands 2 = .ok (.putfield 86, 3) := by decide +kernel
theorem dX12_hands_5 : decode cX12_hands 5 = .ok (.aload_n 0, 1) := by decide +kernel
theorem dX12_hands_6 : decode cX12_hands 6 = .ok (.getfield 329, 3) := by decide +kernel
theorem dX12_hands_9 : decode cX12_hands 9 = .ok (.ifnonnull 11, 3) := by decide +kernel
theorem dX12_hands_12 : decode cX12_hands 12 = .ok (.aload_n 0, 1) := by decide +kernel
theorem dX12_hands_13 : decode cX12_hands 13 = .ok (.iconst 1, 1) := by decide +kernel
theorem dX12_hands_14 : decode cX12_hands 14 = .ok (.invokevirtual 92, 3) := by decide +kernel
theorem dX12_hands_17 : decode cX12_hands 17 = .ok (.goto 11, 3) := by decide +kernel
theorem dX12_hands_20 : decode cX12_hands 20 = .ok (.aload_n 0, 1) := by decide +kernel
theorem dX12_hands_21 : decode cX12_hands 21 = .ok (.aload_n 0, 1) := by decide +kernel
theorem dX12_hands_22 : decode cX12_hands 22 = .ok (.getfield 356, 3) := by decide +kernel
theorem dX12_hands_25 : decode cX12_hands 25 = .ok (.invokevirtual 96, 3) := by decide +kernel
theorem dX12_hands_28 : decode cX12_hands 28 = .ok (.ireturn, 1) := by decide +kernel
theorem dX12_rows_0 : decode cX12_rows 0 = .ok (.aload_n 0, 1) := by decide +kernel
theorem dX12_rows_1 : decode cX12_rows 1 = .ok (.iconst 0, 1) := by decide +kernel
theorem dX12_rows_2 : decode cX12_rows 2 = .ok (.putfield 86, 3) := by decide +kernel
theorem dX12_rows_5 : decode cX12_rows 5 = .ok (.aload_n 0, 1) := by decide +kernel
theorem dX12_rows_6 : decode cX12_rows 6 = .ok (.getfield 329, 3) := by decide +kernel
theorem dX12_rows_9 : decode cX12_rows 9 = .ok (.ifnonnull 11, 3) := by decide +kernel
theorem dX12_rows_12 : decode cX12_rows 12 = .ok (.aload_n 0, 1) := by decide +kernel
theorem dX12_rows_13 : decode cX12_rows 13 = .ok (.iconst 1, 1) := by decide +kernel
theorem dX12_rows_14 : decode cX12_rows 14 = .ok (.invokevirtual 92, 3) := by decide +kernel
theorem dX12_rows_17 : decode cX12_rows 17 = .ok (.goto 11, 3) := by decide +kernel
theorem dX12_rows_20 : decode cX12_rows 20 = .ok (.aload_n 0, 1) := by decide +kernel
theorem dX12_rows_21 : decode cX12_rows 21 = .ok (.aload_n 0, 1) := by decide +kernel
theorem dX12_rows_22 : decode cX12_rows 22 = .ok (.invokevirtual 372, 3) := by decide +kernel
theorem dX12_rows_25 : decode cX12_rows 25 = .ok (.invokevirtual 96, 3) := by decide +kernel
theorem dX12_rows_28 : decode cX12_rows 28 = .ok (.ireturn, 1) := by decide +kernel
theorem dX12_hand_0 : decode cX12_hand 0 = .ok (.aload_n 0, 1) := by decide +kernel
theorem dX12_hand_1 : decode cX12_hand 1 = .ok (.iconst 0, 1) := by decide +kernel
theorem dX12_hand_2 : decode cX12_hand 2 = .ok (.putfield 86, 3) := by decide +kernel
theorem dX12_hand_5 : decode cX12_hand 5 = .ok (.aload_n 0, 1) := by decide +kernel
theorem dX12_hand_6 : decode cX12_hand 6 = .ok (.iload_n 1, 1) := by decide +kernel
theorem dX12_hand_7 : decode cX12_hand 7 = .ok (.invokevirtual 375, 3) := by decide +kernel
theorem dX12_hand_10 : decode cX12_hand 10 = .ok (.ifCond .eq 33, 3) := by decide +kernel
theorem dX12_hand_13 : decode cX12_hand 13 = .ok (.iload_n 2, 1) := by decide +kernel
theorem dX12_hand_14 : decode cX12_hand 14 = .ok (.iconst 0, 1) := by decide +kernel
theorem dX12_hand_15 : decode cX12_hand 15 = .ok (.aload_n 0, 1) := by decide +kernel
theorem dX12_hand_16 : decode cX12_hand 16 = .ok (.getfield 329, 3) := by decide +kernel
theorem dX12_hand_19 : decode cX12_hand 19 = .ok (.getfield 232, 3) := by decide +kernel
theorem dX12_hand_22 : decode cX12_hand 22 = .ok (.iconst 1, 1) := by decide +kernel
theorem dX12_hand_23 : decode cX12_hand 23 = .ok (.isub, 1) := by decide +kernel
theorem dX12_hand_24 : decode cX12_hand 24 = .ok (.invokestatic 168, 3) := by decide +kernel
theorem dX12_hand_27 : decode cX12_hand 27 = .ok (.ifCond .eq 16, 3) := by decide +kernel
theorem dX12_hand_30 : decode cX12_hand 30 = .ok (.aload_n 0, 1) := by decide +kernel
theorem dX12_hand_31 : decode cX12_hand 31 = .ok (.aload_n 0, 1) := by decide +kernel
theorem dX12_hand_32 : decode cX12_hand 32 = .ok (.iload_n 1, 1) := by decide +kernel
theorem dX12_hand_33 : decode cX12_hand 33 = .ok (.iload_n 2, 1) := by decide +kernel
theorem dX12_hand_34 : decode cX12_hand 34 = .ok (.invokevirtual 366, 3) := by decide +kernel
theorem dX12_hand_37 : decode cX12_hand 37 = .ok (.invokevirtual 96, 3) := by decide +kernel
theorem dX12_hand_40 : decode cX12_hand 40 = .ok (.goto 8, 3) := by decide +kernel
theorem dX12_hand_43 : decode cX12_hand 43 = .ok (.aload_n 0, 1) := by decide +kernel
theorem dX12_hand_44 : decode cX12_hand 44 = .ok (.iconst 1, 1) := by decide +kernel
theorem dX12_hand_45 : decode cX12_hand 45 = .ok (.invokevirtual 92, 3) := by decide +kernel
theorem dX12_hand_48 : decode cX12_hand 48 = .ok (.ireturn, 1) := by decide +kernel
theorem dX12_handOf_0 : decode cX12_handOf 0 = .ok (.aload_n 0, 1) := by decide +kernel
theorem dX12_handOf_1 : decode cX12_handOf 1 = .ok (.iconst 0, 1) := by decide +kernel
theorem dX12_handOf_2 : decode cX12_handOf 2 = .ok (.putfield 86, 3) := by decide +kernel
theorem dX12_handOf_5 : decode cX12_handOf 5 = .ok (.aload_n 0, 1) := by decide +kernel
theorem dX12_handOf_6 : decode cX12_handOf 6 = .ok (.getfield 329, 3) := by decide +kernel
theorem dX12_handOf_9 : decode cX12_handOf 9 = .ok (.ifnonnull 9, 3) := by decide +kernel
theorem dX12_handOf_12 : decode cX12_handOf 12 = .ok (.aload_n 0, 1) := by decide +kernel
theorem dX12_handOf_13 : decode cX12_handOf 13 = .ok (.iconst 1, 1) := by decide +kernel
theorem dX12_handOf_14 : decode cX12_handOf 14 = .ok (.invokevirtual 92, 3) := by decide +kernel
theorem dX12_handOf_17 : decode cX12_handOf 17 = .ok (.ireturn, 1) := by decide +kernel
theorem dX12_handOf_18 : decode cX12_handOf 18 = .ok (.aload_n 0, 1) := by decide +kernel
theorem dX12_handOf_19 : decode cX12_handOf 19 = .ok (.getfield 20, 3) := by decide +kernel
theorem dX12_handOf_22 : decode cX12_handOf 22 = .ok (.astore 6, 2) := by decide +kernel
theorem dX12_handOf_24 : decode cX12_handOf 24 = .ok (.aload 6, 2) := by decide +kernel
theorem dX12_handOf_26 : decode cX12_handOf 26 = .ok (.iconst 0, 1) := by decide +kernel
theorem dX12_handOf_27 : decode cX12_handOf 27 = .ok (.iload_n 1, 1) := by decide +kernel
theorem dX12_handOf_28 : decode cX12_handOf 28 = .ok (.iastore, 1) := by decide +kernel
theorem dX12_handOf_29 : decode cX12_handOf 29 = .ok (.aload 6, 2) := by decide +kernel
theorem dX12_handOf_31 : decode cX12_handOf 31 = .ok (.iconst 1, 1) := by decide +kernel
theorem dX12_handOf_32 : decode cX12_handOf 32 = .ok (.iload_n 2, 1) := by decide +kernel
theorem dX12_handOf_33 : decode cX12_handOf 33 = .ok (.iastore, 1) := by decide +kernel
theorem dX12_handOf_34 : decode cX12_handOf 34 = .ok (.aload 6, 2) := by decide +kernel
theorem dX12_handOf_36 : decode cX12_handOf 36 = .ok (.iconst 2, 1) := by decide +kernel
theorem dX12_handOf_37 : decode cX12_handOf 37 = .ok (.iload_n 3, 1) := by decide +kernel
theorem dX12_handOf_38 : decode cX12_handOf 38 = .ok (.iastore, 1) := by decide +kernel
theorem dX12_handOf_39 : decode cX12_handOf 39 = .ok (.aload 6, 2) := by decide +kernel
theorem dX12_handOf_41 : decode cX12_handOf 41 = .ok (.iconst 3, 1) := by decide +kernel
theorem dX12_handOf_42 : decode cX12_handOf 42 = .ok (.iload 4, 2) := by decide +kernel
theorem dX12_handOf_44 : decode cX12_handOf 44 = .ok (.iastore, 1) := by decide +kernel
theorem dX12_handOf_45 : decode cX12_handOf 45 = .ok (.aload 6, 2) := by decide +kernel
theorem dX12_handOf_47 : decode cX12_handOf 47 = .ok (.iconst 4, 1) := by decide +kernel
theorem dX12_handOf_48 : decode cX12_handOf 48 = .ok (.iload 5, 2) := by decide +kernel
theorem dX12_handOf_50 : decode cX12_handOf 50 = .ok (.iastore, 1) := by decide +kernel
theorem dX12_handOf_51 : decode cX12_handOf 51 = .ok (.iconst 0, 1) := by decide +kernel
theorem dX12_handOf_52 : decode cX12_handOf 52 = .ok (.istore 7, 2) := by decide +kernel
theorem dX12_handOf_54 : decode cX12_handOf 54 = .ok (.iload 7, 2) := by decide +kernel
theorem dX12_handOf_56 : decode cX12_handOf 56 = .ok (.iconst 5, 1) := by decide +kernel
theorem dX12_handOf_57 : decode cX12_handOf 57 = .ok (.if_icmp .ge 107, 3) := by decide +kernel
theorem dX12_handOf_60 : decode cX12_handOf 60 = .ok (.iload 7, 2) := by decide +kernel
theorem dX12_handOf_62 : decode cX12_handOf 62 = .ok (.aload_n 0, 1) := by decide +kernel
theorem dX12_handOf_63 : decode cX12_handOf 63 = .ok (.getfield 329, 3) := by decide +kernel
theorem dX12_handOf_66 : decode cX12_handOf 66 = .ok (.getfield 232, 3) := by decide +kernel
theorem dX12_handOf_69 : decode cX12_handOf 69 = .ok (.if_icmp .ge 27, 3) := by decide +kernel
theorem dX12_handOf_72 : decode cX12_handOf 72 = .ok (.aload 6, 2) := by decide +kernel
theorem dX12_handOf_74 : decode cX12_handOf 74 = .ok (.iload 7, 2) := by decide +kernel
theorem dX12_handOf_76 : decode cX12_handOf 76 = .ok (.iaload, 1) := by decide +kernel
theorem dX12_handOf_77 : decode cX12_handOf 77 = .ok (.iconst 0, 1) := by decide +kernel
theorem dX12_handOf_78 : decode cX12_handOf 78 = .ok (.aload_n 0, 1) := by decide +kernel
theorem dX12_handOf_79 : decode cX12_handOf 79 = .ok (.getfield 329, 3) := by decide +kernel
theorem dX12_handOf_82 : decode cX12_handOf 82 = .ok (.getfield 194, 3) := by decide +kernel
theorem dX12_handOf_85 : decode cX12_handOf 85 = .ok (.iconst 1, 1) := by decide +kernel
theorem dX12_handOf_86 : decode cX12_handOf 86 = .ok (.isub, 1) := by decide +kernel
theorem dX12_handOf_87 : decode cX12_handOf 87 = .ok (.invokestatic 168, 3) := by decide +kernel
theorem dX12_handOf_90 : decode cX12_handOf 90 = .ok (.ifCond .ne 21, 3) := by decide +kernel
theorem dX12_handOf_93 : decode cX12_handOf 93 = .ok (.goto 12, 3) := by decide +kernel
theorem dX12_handOf_96 : decode cX12_handOf 96 = .ok (.aload 6, 2) := by decide +kernel
theorem dX12_handOf_98 : decode cX12_handOf 98 = .ok (.iload 7, 2) := by decide +kernel
theorem dX12_handOf_100 : decode cX12_handOf 100 = .ok (.iaload, 1) := by decide +kernel
theorem dX12_handOf_101 : decode cX12_handOf 101 = .ok (.iconst (-1), 1) := by decide +kernel
theorem dX12_handOf_102 : decode cX12_handOf 102 = .ok (.if_icmp .eq 9, 3) := by decide +kernel
theorem dX12_handOf_105 : decode cX12_handOf 105 = .ok (.aload_n 0, 1) := by decide +kernel
theorem dX12_handOf_106 : decode cX12_handOf 106 = .ok (.iconst 2, 1) := by decide +kernel
theorem dX12_handOf_107 : decode cX12_handOf 107 = .ok (.invokevirtual 92, 3) := by decide +kernel
theorem dX12_handOf_110 : decode cX12_handOf 110 = .ok (.ireturn, 1) := by decide +kernel
theorem dX12_handOf_111 : decode cX12_handOf 111 = .ok (.iconst 0, 1) := by decide +kernel
theorem dX12_handOf_112 : decode cX12_handOf 112 = .ok (.istore 8, 2) := by decide +kernel
theorem dX12_handOf_114 : decode cX12_handOf 114 = .ok (.iload 8, 2) := by decide +kernel
theorem dX12_handOf_116 : decode cX12_handOf 116 = .ok (.iload 7, 2) := by decide +kernel
theorem dX12_handOf_118 : decode cX12_handOf 118 = .ok (.if_icmp .ge 40, 3) := by decide +kernel
theorem dX12_handOf_121 : decode cX12_handOf 121 = .ok (.iload 7, 2) := by decide +kernel
theorem dX12_handOf_123 : decode cX12_handOf 123 = .ok (.aload_n 0, 1) := by decide +kernel
theorem dX12_handOf_124 : decode cX12_handOf 124 = .ok (.getfield 329, 3) := by decide +kernel
theorem dX12_handOf_127 : decode cX12_handOf 127 = .ok (.getfield 232, 3) := by decide +kernel
theorem dX12_handOf_130 : decode cX12_handOf 130 = .ok (.if_icmp .ge 28, 3) := by decide +kernel
theorem dX12_handOf_133 : decode cX12_handOf 133 = .ok (.aload 6, 2) := by decide +kernel
theorem dX12_handOf_135 : decode cX12_handOf 135 = .ok (.iload 8, 2) := by decide +kernel
theorem dX12_handOf_137 : decode cX12_handOf 137 = .ok (.iaload, 1) := by decide +kernel
theorem dX12_handOf_138 : decode cX12_handOf 138 = .ok (.aload 6, 2) := by decide +kernel
theorem dX12_handOf_140 : decode cX12_handOf 140 = .ok (.iload 7, 2) := by decide +kernel
theorem dX12_handOf_142 : decode cX12_handOf 142 = .ok (.iaload, 1) := by decide +kernel
theorem dX12_handOf_143 : decode cX12_handOf 143 = .ok (.if_icmp .ne 9, 3) := by decide +kernel
theorem dX12_handOf_146 : decode cX12_handOf 146 = .ok (.aload_n 0, 1) := by decide +kernel
theorem dX12_handOf_147 : decode cX12_handOf 147 = .ok (.iconst 2, 1) := by decide +kernel
theorem dX12_handOf_148 : decode cX12_handOf 148 = .ok (.invokevirtual 92, 3) := by decide +kernel
theorem dX12_handOf_151 : decode cX12_handOf 151 = .ok (.ireturn, 1) := by decide +kernel
theorem dX12_handOf_152 : decode cX12_handOf 152 = .ok (.iinc 8 1, 3) := by decide +kernel
theorem dX12_handOf_155 : decode cX12_handOf 155 = .ok (.goto (-41), 3) := by decide +kernel
theorem dX12_handOf_158 : decode cX12_handOf 158 = .ok (.iinc 7 1, 3) := by decide +kernel
theorem dX12_handOf_161 : decode cX12_handOf 161 = .ok (.goto (-107), 3) := by decide +kernel
theorem dX12_handOf_164 : decode cX12_handOf 164 = .ok (.aload_n 0, 1) := by decide +kernel
theorem dX12_handOf_165 : decode cX12_handOf 165 = .ok (.aload_n 0, 1) := by decide +kernel
theorem dX12_handOf_166 : decode cX12_handOf 166 = .ok (.aload 6, 2) := by decide +kernel
theorem dX12_handOf_168 : decode cX12_handOf 168 = .ok (.iconst 0, 1) := by decide +kernel
theorem dX12_handOf_169 : decode cX12_handOf 169 = .ok (.invokevirtual 347, 3) := by decide +kernel
theorem dX12_handOf_172 : decode cX12_handOf 172 = .ok (.invokevirtual 96, 3) := by decide +kernel
theorem dX12_handOf_175 : decode cX12_handOf 175 = .ok (.ireturn, 1) := by decide +kernel
theorem dX12_row_0 : decode cX12_row 0 = .ok (.aload_n 0, 1) := by decide +kernel
theorem dX12_row_1 : decode cX12_row 1 = .ok (.iconst 0, 1) := by decide +kernel
theorem dX12_row_2 : decode cX12_row 2 = .ok (.putfield 86, 3) := by decide +kernel
theorem dX12_row_5 : decode cX12_row 5 = .ok (.aload_n 0, 1) := by decide +kernel
theorem dX12_row_6 : decode cX12_row 6 = .ok (.iload_n 1, 1) := by decide +kernel
theorem dX12_row_7 : decode cX12_row 7 = .ok (.invokevirtual 378, 3) := by decide +kernel
theorem dX12_row_10 : decode cX12_row 10 = .ok (.ifCond .eq 20, 3) := by decide +kernel
theorem dX12_row_13 : decode cX12_row 13 = .ok (.iload_n 2, 1) := by decide +kernel
theorem dX12_row_14 : decode cX12_row 14 = .ok (.iconst 0, 1) := by decide +kernel
theorem dX12_row_15 : decode cX12_row 15 = .ok (.aload_n 0, 1) := by decide +kernel
theorem dX12_row_16 : decode cX12_row 16 = .ok (.getfield 329, 3) := by decide +kernel
theorem dX12_row_19 : decode cX12_row 19 = .ok (.getfield 257, 3) := by decide +kernel
theorem dX12_row_22 : decode cX12_row 22 = .ok (.iconst 1, 1) := by decide +kernel
theorem dX12_row_23 : decode cX12_row 23 = .ok (.isub, 1) := by decide +kernel
theorem dX12_row_24 : decode cX12_row 24 = .ok (.invokestatic 168, 3) := by decide +kernel
theorem dX12_row_27 : decode cX12_row 27 = .ok (.ifCond .ne 9, 3) := by decide +kernel
theorem dX12_row_30 : decode cX12_row 30 = .ok (.aload_n 0, 1) := by decide +kernel
theorem dX12_row_31 : decode cX12_row 31 = .ok (.iconst 1, 1) := by decide +kernel
theorem dX12_row_32 : decode cX12_row 32 = .ok (.invokevirtual 92, 3) := by decide +kernel
theorem dX12_row_35 : decode cX12_row 35 = .ok (.ireturn, 1) := by decide +kernel
theorem dX12_row_36 : decode cX12_row 36 = .ok (.aload_n 0, 1) := by decide +kernel
theorem dX12_row_37 : decode cX12_row 37 = .ok (.iload_n 1, 1) := by decide +kernel
theorem dX12_row_38 : decode cX12_row 38 = .ok (.aload_n 0, 1) := by decide +kernel
theorem dX12_row_39 : decode cX12_row 39 = .ok (.getfield 24, 3) := by decide +kernel
theorem dX12_row_42 : decode cX12_row 42 = .ok (.invokevirtual 381, 3) := by decide +kernel
theorem dX12_row_45 : decode cX12_row 45 = .ok (.aload_n 0, 1) := by decide +kernel
theorem dX12_row_46 : decode cX12_row 46 = .ok (.aload_n 0, 1) := by decide +kernel
theorem dX12_row_47 : decode cX12_row 47 = .ok (.getfield 24, 3) := by decide +kernel
theorem dX12_row_50 : decode cX12_row 50 = .ok (.iload_n 2, 1) := by decide +kernel
theorem dX12_row_51 : decode cX12_row 51 = .ok (.iaload, 1) := by decide +kernel
theorem dX12_row_52 : decode cX12_row 52 = .ok (.invokevirtual 96, 3) := by decide +kernel
theorem dX12_row_55 : decode cX12_row 55 = .ok (.ireturn, 1) := by decide +kernel
theorem dX12_tilted_0 : decode cX12_tilted 0 = .ok (.aload_n 0, 1) := by decide +kernel
theorem dX12_tilted_1 : decode cX12_tilted 1 = .ok (.iconst 0, 1) := by decide +kernel
theorem dX12_tilted_2 : decode cX12_tilted 2 = .ok (.putfield 86, 3) := by decide +kernel
theorem dX12_tilted_5 : decode cX12_tilted 5 = .ok (.aload_n 0, 1) := by decide +kernel
theorem dX12_tilted_6 : decode cX12_tilted 6 = .ok (.iload_n 1, 1) := by decide +kernel
theorem dX12_tilted_7 : decode cX12_tilted 7 = .ok (.invokevirtual 378, 3) := by decide +kernel
theorem dX12_tilted_10 : decode cX12_tilted 10 = .ok (.ifCond .eq 19, 3) := by decide +kernel
theorem dX12_tilted_13 : decode cX12_tilted 13 = .ok (.aload_n 0, 1) := by decide +kernel
theorem dX12_tilted_14 : decode cX12_tilted 14 = .ok (.iload_n 1, 1) := by decide +kernel
theorem dX12_tilted_15 : decode cX12_tilted 15 = .ok (.aload_n 0, 1) := by decide +kernel
theorem dX12_tilted_16 : decode cX12_tilted 16 = .ok (.getfield 329, 3) := by decide +kernel
theorem dX12_tilted_19 : decode cX12_tilted 19 = .ok (.invokevirtual 354, 3) := by decide +kernel
theorem dX12_tilted_22 : decode cX12_tilted 22 = .ok (.irem, 1) := by decide +kernel
theorem dX12_tilted_23 : decode cX12_tilted 23 = .ok (.invokevirtual 96, 3) := by decide +kernel
theorem dX12_tilted_26 : decode cX12_tilted 26 = .ok (.goto 8, 3) := by decide +kernel
theorem dX12_tilted_29 : decode cX12_tilted 29 = .ok (.aload_n 0, 1) := by decide +kernel
theorem dX12_tilted_30 : decode cX12_tilted 30 = .ok (.iconst 1, 1) := by decide +kernel
theorem dX12_tilted_31 : decode cX12_tilted 31 = .ok (.invokevirtual 92, 3) := by decide +kernel
theorem dX12_tilted_34 : decode cX12_tilted 34 = .ok (.ireturn, 1) := by decide +kernel
theorem dX12_rowFits_0 : decode cX12_rowFits 0 = .ok (.aload_n 0, 1) := by decide +kernel
theorem dX12_rowFits_1 : decode cX12_rowFits 1 = .ok (.iload_n 2, 1) := by decide +kernel
theorem dX12_rowFits_2 : decode cX12_rowFits 2 = .ok (.aload_n 0, 1) := by decide +kernel
theorem dX12_rowFits_3 : decode cX12_rowFits 3 = .ok (.getfield 24, 3) := by decide +kernel
theorem dX12_rowFits_6 : decode cX12_rowFits 6 = .ok (.invokevirtual 381, 3) := by decide +kernel
theorem dX12_rowFits_9 : decode cX12_rowFits 9 = .ok (.iconst 0, 1) := by decide +kernel
theorem dX12_rowFits_10 : decode cX12_rowFits 10 = .ok (.istore_n 3, 1) := by decide +kernel
theorem dX12_rowFits_11 : decode cX12_rowFits 11 = .ok (.iconst 0, 1) := by decide +kernel
theorem dX12_rowFits_12 : decode cX12_rowFits 12 = .ok (.istore 4, 2) := by decide +kernel
theorem dX12_rowFits_14 : decode cX12_rowFits 14 = .ok (.iload 4, 2) := by decide +kernel
theorem dX12_rowFits_16 : decode cX12_rowFits 16 = .ok (.aload_n 0, 1) := by decide +kernel
theorem dX12_rowFits_17 : decode cX12_rowFits 17 = .ok (.getfield 329, 3) := by decide +kernel
theorem dX12_rowFits_20 : decode cX12_rowFits 20 = .ok (.getfield 257, 3) := by decide +kernel
theorem dX12_rowFits_23 : decode cX12_rowFits 23 = .ok (.if_icmp .ge 119, 3) := by decide +kernel
theorem dX12_rowFits_26 : decode cX12_rowFits 26 = .ok (.aload_n 0, 1) := by decide +kernel
theorem dX12_rowFits_27 : decode cX12_rowFits 27 = .ok (.iload_n 1, 1) := by decide +kernel
theorem dX12_rowFits_28 : decode cX12_rowFits 28 = .ok (.aload_n 0, 1) := by decide +kernel
theorem dX12_rowFits_29 : decode cX12_rowFits 29 = .ok (.getfield 24, 3) := by decide +kernel
theorem dX12_rowFits_32 : decode cX12_rowFits 32 = .ok (.iload 4, 2) := by decide +kernel
theorem dX12_rowFits_34 : decode cX12_rowFits 34 = .ok (.iaload, 1) := by decide +kernel
theorem dX12_rowFits_35 : decode cX12_rowFits 35 = .ok (.invokevirtual 369, 3) := by decide +kernel
theorem dX12_rowFits_38 : decode cX12_rowFits 38 = .ok (.ifCond .eq 37, 3) := by decide +kernel
theorem dX12_rowFits_41 : decode cX12_rowFits 41 = .ok (.aload_n 0, 1) := by decide +kernel
theorem dX12_rowFits_42 : decode cX12_rowFits 42 = .ok (.getfield 329, 3) := by decide +kernel
theorem dX12_rowFits_45 : decode cX12_rowFits 45 = .ok (.getfield 245, 3) := by decide +kernel
theorem dX12_rowFits_48 : decode cX12_rowFits 48 = .ok (.ifCond .eq 29, 3) := by decide +kernel
theorem dX12_rowFits_51 : decode cX12_rowFits 51 = .ok (.iload 4, 2) := by decide +kernel
theorem dX12_rowFits_53 : decode cX12_rowFits 53 = .ok (.ifCond .le 24, 3) := by decide +kernel
theorem dX12_rowFits_56 : decode cX12_rowFits 56 = .ok (.aload_n 0, 1) := by decide +kernel
theorem dX12_rowFits_57 : decode cX12_rowFits 57 = .ok (.getfield 24, 3) := by decide +kernel
theorem dX12_rowFits_60 : decode cX12_rowFits 60 = .ok (.iload 4, 2) := by decide +kernel
theorem dX12_rowFits_62 : decode cX12_rowFits 62 = .ok (.iaload, 1) := by decide +kernel
theorem dX12_rowFits_63 : decode cX12_rowFits 63 = .ok (.aload_n 0, 1) := by decide +kernel
theorem dX12_rowFits_64 : decode cX12_rowFits 64 = .ok (.getfield 24, 3) := by decide +kernel
theorem dX12_rowFits_67 : decode cX12_rowFits 67 = .ok (.iload 4, 2) := by decide +kernel
theorem dX12_rowFits_69 : decode cX12_rowFits 69 = .ok (.iconst 1, 1) := by decide +kernel
theorem dX12_rowFits_70 : decode cX12_rowFits 70 = .ok (.isub, 1) := by decide +kernel
theorem dX12_rowFits_71 : decode cX12_rowFits 71 = .ok (.iaload, 1) := by decide +kernel
theorem dX12_rowFits_72 : decode cX12_rowFits 72 = .ok (.if_icmp .ge 5, 3) := by decide +kernel
theorem dX12_rowFits_75 : decode cX12_rowFits 75 = .ok (.iconst 0, 1) := by decide +kernel
theorem dX12_rowFits_76 : decode cX12_rowFits 76 = .ok (.ireturn, 1) := by decide +kernel
theorem dX12_rowFits_77 : decode cX12_rowFits 77 = .ok (.aload_n 0, 1) := by decide +kernel
theorem dX12_rowFits_78 : decode cX12_rowFits 78 = .ok (.getfield 329, 3) := by decide +kernel
theorem dX12_rowFits_81 : decode cX12_rowFits 81 = .ok (.getfield 228, 3) := by decide +kernel
theorem dX12_rowFits_84 : decode cX12_rowFits 84 = .ok (.ifCond .ne 6, 3) := by decide +kernel
theorem dX12_rowFits_87 : decode cX12_rowFits 87 = .ok (.goto 49, 3) := by decide +kernel
theorem dX12_rowFits_90 : decode cX12_rowFits 90 = .ok (.iload_n 3, 1) := by decide +kernel
theorem dX12_rowFits_91 : decode cX12_rowFits 91 = .ok (.aload_n 0, 1) := by decide +kernel
theorem dX12_rowFits_92 : decode cX12_rowFits 92 = .ok (.getfield 329, 3) := by decide +kernel
theorem dX12_rowFits_95 : decode cX12_rowFits 95 = .ok (.getfield 232, 3) := by decide +kernel
theorem dX12_rowFits_98 : decode cX12_rowFits 98 = .ok (.if_icmp .ge 25, 3) := by decide +kernel
theorem dX12_rowFits_101 : decode cX12_rowFits 101 = .ok (.aload_n 0, 1) := by decide +kernel
theorem dX12_rowFits_102 : decode cX12_rowFits 102 = .ok (.iload_n 1, 1) := by decide +kernel
theorem dX12_rowFits_103 : decode cX12_rowFits 103 = .ok (.iload_n 3, 1) := by decide +kernel
theorem dX12_rowFits_104 : decode cX12_rowFits 104 = .ok (.invokevirtual 366, 3) := by decide +kernel
theorem dX12_rowFits_107 : decode cX12_rowFits 107 = .ok (.aload_n 0, 1) := by decide +kernel
theorem dX12_rowFits_108 : decode cX12_rowFits 108 = .ok (.getfield 24, 3) := by decide +kernel
theorem dX12_rowFits_111 : decode cX12_rowFits 111 = .ok (.iload 4, 2) := by decide +kernel
theorem dX12_rowFits_113 : decode cX12_rowFits 113 = .ok (.iaload, 1) := by decide +kernel
theorem dX12_rowFits_114 : decode cX12_rowFits 114 = .ok (.if_icmp .eq 9, 3) := by decide +kernel
theorem dX12_rowFits_117 : decode cX12_rowFits 117 = .ok (.iinc 3 1, 3) := by decide +kernel
theorem dX12_rowFits_120 : decode cX12_rowFits 120 = .ok (.goto (-30), 3) := by decide +kernel
theorem dX12_rowFits_123 : decode cX12_rowFits 123 = .ok (.iload_n 3, 1) := by decide +kernel
theorem dX12_rowFits_124 : decode cX12_rowFits 124 = .ok (.aload_n 0, 1) := by decide +kernel
theorem dX12_rowFits_125 : decode cX12_rowFits 125 = .ok (.getfield 329, 3) := by decide +kernel
theorem dX12_rowFits_128 : decode cX12_rowFits 128 = .ok (.getfield 232, 3) := by decide +kernel
theorem dX12_rowFits_131 : decode cX12_rowFits 131 = .ok (.if_icmp .ne 5, 3) := by decide +kernel
theorem dX12_rowFits_134 : decode cX12_rowFits 134 = .ok (.iconst 0, 1) := by decide +kernel
theorem dX12_rowFits_135 : decode cX12_rowFits 135 = .ok (.ireturn, 1) := by decide +kernel
theorem dX12_rowFits_136 : decode cX12_rowFits 136 = .ok (.iinc 4 1, 3) := by decide +kernel
theorem dX12_rowFits_139 : decode cX12_rowFits 139 = .ok (.goto (-125), 3) := by decide +kernel
theorem dX12_rowFits_142 : decode cX12_rowFits 142 = .ok (.iconst 1, 1) := by decide +kernel
theorem dX12_rowFits_143 : decode cX12_rowFits 143 = .ok (.ireturn, 1) := by decide +kernel
theorem dX12_fits_0 : decode cX12_fits 0 = .ok (.aload_n 0, 1) := by decide +kernel
theorem dX12_fits_1 : decode cX12_fits 1 = .ok (.iconst 0, 1) := by decide +kernel
theorem dX12_fits_2 : decode cX12_fits 2 = .ok (.putfield 86, 3) := by decide +kernel
theorem dX12_fits_5 : decode cX12_fits 5 = .ok (.aload_n 0, 1) := by decide +kernel
theorem dX12_fits_6 : decode cX12_fits 6 = .ok (.iload_n 1, 1) := by decide +kernel
theorem dX12_fits_7 : decode cX12_fits 7 = .ok (.invokevirtual 375, 3) := by decide +kernel
theorem dX12_fits_10 : decode cX12_fits 10 = .ok (.ifCond .eq 32, 3) := by decide +kernel
theorem dX12_fits_13 : decode cX12_fits 13 = .ok (.aload_n 0, 1) := by decide +kernel
theorem dX12_fits_14 : decode cX12_fits 14 = .ok (.iload_n 2, 1) := by decide +kernel
theorem dX12_fits_15 : decode cX12_fits 15 = .ok (.invokevirtual 378, 3) := by decide +kernel
theorem dX12_fits_18 : decode cX12_fits 18 = .ok (.ifCond .eq 24, 3) := by decide +kernel
theorem dX12_fits_21 : decode cX12_fits 21 = .ok (.aload_n 0, 1) := by decide +kernel
theorem dX12_fits_22 : decode cX12_fits 22 = .ok (.aload_n 0, 1) := by decide +kernel
theorem dX12_fits_23 : decode cX12_fits 23 = .ok (.iload_n 1, 1) := by decide +kernel
theorem dX12_fits_24 : decode cX12_fits 24 = .ok (.iload_n 2, 1) := by decide +kernel
theorem dX12_fits_25 : decode cX12_fits 25 = .ok (.invokevirtual 385, 3) := by decide +kernel
theorem dX12_fits_28 : decode cX12_fits 28 = .ok (.ifCond .eq 7, 3) := by decide +kernel
theorem dX12_fits_31 : decode cX12_fits 31 = .ok (.iconst 1, 1) := by decide +kernel
theorem dX12_fits_32 : decode cX12_fits 32 = .ok (.goto 4, 3) := by decide +kernel
theorem dX12_fits_35 : decode cX12_fits 35 = .ok (.iconst 0, 1) := by decide +kernel
theorem dX12_fits_36 : decode cX12_fits 36 = .ok (.invokevirtual 96, 3) := by decide +kernel
theorem dX12_fits_39 : decode cX12_fits 39 = .ok (.goto 8, 3) := by decide +kernel
theorem dX12_fits_42 : decode cX12_fits 42 = .ok (.aload_n 0, 1) := by decide +kernel
theorem dX12_fits_43 : decode cX12_fits 43 = .ok (.iconst 1, 1) := by decide +kernel
theorem dX12_fits_44 : decode cX12_fits 44 = .ok (.invokevirtual 92, 3) := by decide +kernel
theorem dX12_fits_47 : decode cX12_fits 47 = .ok (.ireturn, 1) := by decide +kernel
theorem dX12_isOneOrder_0 : decode cX12_isOneOrder 0 = .ok (.aload_n 0, 1) := by decide +kernel
theorem dX12_isOneOrder_1 : decode cX12_isOneOrder 1 = .ok (.getfield 329, 3) := by decide +kernel
theorem dX12_isOneOrder_4 : decode cX12_isOneOrder 4 = .ok (.getfield 245, 3) := by decide +kernel
theorem dX12_isOneOrder_7 : decode cX12_isOneOrder 7 = .ok (.ifCond .ne 13, 3) := by decide +kernel
theorem dX12_isOneOrder_10 : decode cX12_isOneOrder 10 = .ok (.aload_n 0, 1) := by decide +kernel
theorem dX12_isOneOrder_11 : decode cX12_isOneOrder 11 = .ok (.getfield 329, 3) := by decide +kernel
theorem dX12_isOneOrder_14 : decode cX12_isOneOrder 14 = .ok (.getfield 228, 3) := by decide +kernel
theorem dX12_isOneOrder_17 : decode cX12_isOneOrder 17 = .ok (.ifCond .eq 7, 3) := by decide +kernel
theorem dX12_isOneOrder_20 : decode cX12_isOneOrder 20 = .ok (.iconst 1, 1) := by decide +kernel
theorem dX12_isOneOrder_21 : decode cX12_isOneOrder 21 = .ok (.goto 4, 3) := by decide +kernel
theorem dX12_isOneOrder_24 : decode cX12_isOneOrder 24 = .ok (.iconst 0, 1) := by decide +kernel
theorem dX12_isOneOrder_25 : decode cX12_isOneOrder 25 = .ok (.ireturn, 1) := by decide +kernel
theorem dX12_fittingMany_0 : decode cX12_fittingMany 0 = .ok (.aload_n 0, 1) := by decide +kernel
theorem dX12_fittingMany_1 : decode cX12_fittingMany 1 = .ok (.invokevirtual 388, 3) := by decide +kernel
theorem dX12_fittingMany_4 : decode cX12_fittingMany 4 = .ok (.ifCond .eq 23, 3) := by decide +kernel
theorem dX12_fittingMany_7 : decode cX12_fittingMany 7 = .ok (.aload_n 0, 1) := by decide +kernel
theorem dX12_fittingMany_8 : decode cX12_fittingMany 8 = .ok (.getfield 329, 3) := by decide +kernel
theorem dX12_fittingMany_11 : decode cX12_fittingMany 11 = .ok (.getfield 232, 3) := by decide +kernel
theorem dX12_fittingMany_14 : decode cX12_fittingMany 14 = .ok (.aload_n 0, 1) := by decide +kernel
theorem dX12_fittingMany_15 : decode cX12_fittingMany 15 = .ok (.getfield 329, 3) := by decide +kernel
theorem dX12_fittingMany_18 : decode cX12_fittingMany 18 = .ok (.getfield 257, 3) := by decide +kernel
theorem dX12_fittingMany_21 : decode cX12_fittingMany 21 = .ok (.invokestatic 391, 3) := by decide +kernel
theorem dX12_fittingMany_24 : decode cX12_fittingMany 24 = .ok (.goto 20, 3) := by decide +kernel
theorem dX12_fittingMany_27 : decode cX12_fittingMany 27 = .ok (.aload_n 0, 1) := by decide +kernel
theorem dX12_fittingMany_28 : decode cX12_fittingMany 28 = .ok (.getfield 329, 3) := by decide +kernel
theorem dX12_fittingMany_31 : decode cX12_fittingMany 31 = .ok (.getfield 232, 3) := by decide +kernel
theorem dX12_fittingMany_34 : decode cX12_fittingMany 34 = .ok (.aload_n 0, 1) := by decide +kernel
theorem dX12_fittingMany_35 : decode cX12_fittingMany 35 = .ok (.getfield 329, 3) := by decide +kernel
theorem dX12_fittingMany_38 : decode cX12_fittingMany 38 = .ok (.getfield 257, 3) := by decide +kernel
theorem dX12_fittingMany_41 : decode cX12_fittingMany 41 = .ok (.invokestatic 99, 3) := by decide +kernel
theorem dX12_fittingMany_44 : decode cX12_fittingMany 44 = .ok (.l2i, 1) := by decide +kernel
theorem dX12_fittingMany_45 : decode cX12_fittingMany 45 = .ok (.aload_n 0, 1) := by decide +kernel
theorem dX12_fittingMany_46 : decode cX12_fittingMany 46 = .ok (.getfield 329, 3) := by decide +kernel
theorem dX12_fittingMany_49 : decode cX12_fittingMany 49 = .ok (.invokevirtual 354, 3) := by decide +kernel
theorem dX12_fittingMany_52 : decode cX12_fittingMany 52 = .ok (.imul, 1) := by decide +kernel
theorem dX12_fittingMany_53 : decode cX12_fittingMany 53 = .ok (.ireturn, 1) := by decide +kernel
theorem dX12_fitting_0 : decode cX12_fitting 0 = .ok (.aload_n 0, 1) := by decide +kernel
theorem dX12_fitting_1 : decode cX12_fitting 1 = .ok (.iconst 0, 1) := by decide +kernel
theorem dX12_fitting_2 : decode cX12_fitting 2 = .ok (.putfield 86, 3) := by decide +kernel
theorem dX12_fitting_5 : decode cX12_fitting 5 = .ok (.aload_n 0, 1) := by decide +kernel
theorem dX12_fitting_6 : decode cX12_fitting 6 = .ok (.getfield 329, 3) := by decide +kernel
theorem dX12_fitting_9 : decode cX12_fitting 9 = .ok (.ifnonnull 11, 3) := by decide +kernel
theorem dX12_fitting_12 : decode cX12_fitting 12 = .ok (.aload_n 0, 1) := by decide +kernel
theorem dX12_fitting_13 : decode cX12_fitting 13 = .ok (.iconst 1, 1) := by decide +kernel
theorem dX12_fitting_14 : decode cX12_fitting 14 = .ok (.invokevirtual 92, 3) := by decide +kernel
theorem dX12_fitting_17 : decode cX12_fitting 17 = .ok (.goto 11, 3) := by decide +kernel
theorem dX12_fitting_20 : decode cX12_fitting 20 = .ok (.aload_n 0, 1) := by decide +kernel
theorem dX12_fitting_21 : decode cX12_fitting 21 = .ok (.aload_n 0, 1) := by decide +kernel
theorem dX12_fitting_22 : decode cX12_fitting 22 = .ok (.invokevirtual 394, 3) := by decide +kernel
theorem dX12_fitting_25 : decode cX12_fitting 25 = .ok (.invokevirtual 96, 3) := by decide +kernel
theorem dX12_fitting_28 : decode cX12_fitting 28 = .ok (.ireturn, 1) := by decide +kernel
set_option maxHeartbeats 4000000 in
set_option maxRecDepth 100000 in
theorem sX12_hands {l : Launch} {D : va_G} {cA : Nat → ClassId} {base : Nat} {sA : Nat → Nat} {r0 : Nat} {h hE : Zh} {rE : Int32} (hf : fX12_hands r0 h = some (rE, hE)) : zC l yX12_hands cX12_hands 1 (some .int) 1 21 D cA base sA [.ref (base + r0)] h (some (.int rE)) hE := by
  refine g_entry RX12 (by decide) rfl (Nat.le_of_ble_eq_true rfl) ?_
  intro p e s m args below meth c X hr
  unfold fX12_hands at hf
  have hf := zlet_n (x := h) rfl hf
  show zG p l e { frames := 1, cells := 0, slots := 0, locals := 21 } s m args below meth c (MQ below (zQ D cA base h hE (some (.int rE))) args s 0 0 (zA base)) 1 D cA base h 0 [(0, .ref (base + r0))] [] h
  refine g_aload_n X 0 dX12_hands_0 rfl ?_
  refine g_iconst X (v := 0) dX12_hands_1 (by decide) ?_
  obtain ⟨hk1, hf⟩ := zite hf
  refine g_putI X zf12 hk1 0 (by decide) w_f_RX12_86 rfl rfl rfl dX12_hands_2 ?_
  refine g_hp (fun h2 eh2 => ?_)
  have hf := zlet_n eh2 hf
  refine g_aload_n X 0 dX12_hands_5 rfl ?_
  refine g_get X zf12 hk1 3 (by decide) w_f_RX12_329 rfl rfl dX12_hands_6 ?_
  refine g_ifnonnull X 20 dX12_hands_9 (by decide) (fun _ hq => ?_) (fun hq => ?_)
  · have hf := zpos (by rw [hq]; rfl) hf
    refine g_aload_n X 0 dX12_hands_20 rfl ?_
    refine g_aload_n X 0 dX12_hands_21 rfl ?_
    refine g_get X zf12 hk1 17 (by decide) w_f_RX12_356 rfl rfl dX12_hands_22 ?_
    obtain ⟨v4, h3, hch3, hf⟩ := zc2_e hf
    refine g_callV X 1 (sX12_good hch3) zf12 hk1 ydX12_good w_ml_RX12_96 w_instanceMethod_X12_good w_sel_X12_good w_ini_RX12 w_code_X12_good (by decide) rfl (st := []) rfl rfl (Nat.le_of_ble_eq_true rfl) dX12_hands_25 ?_
    obtain ⟨rfl, rfl⟩ := zsm hf
    exact g_iret X hr dX12_hands_28
  · have hf := zneg (by rw [hq]; decide) hf
    refine g_aload_n X 0 dX12_hands_12 rfl ?_
    refine g_iconst X (v := 1) dX12_hands_13 (by decide) ?_
    obtain ⟨v6, h5, hch5, hf⟩ := zc2_e hf
    refine g_callV X 1 (sX12_refused hch5) zf12 hk1 ydX12_refused w_ml_RX12_92 w_instanceMethod_X12_refused w_sel_X12_refused w_ini_RX12 w_code_X12_refused (by decide) rfl (st := []) rfl rfl (Nat.le_of_ble_eq_true rfl) dX12_hands_14 ?_
    refine g_goto X 28 dX12_hands_17 (by decide) ?_
    obtain ⟨rfl, rfl⟩ := zsm hf
    exact g_iret X hr dX12_hands_28

set_option maxHeartbeats 4000000 in
set_option maxRecDepth 100000 in
theorem sX12_rows {l : Launch} {D : va_G} {cA : Nat → ClassId} {base : Nat} {sA : Nat → Nat} {r0 : Nat} {h hE : Zh} {rE : Int32} (hf : fX12_rows r0 h = some (rE, hE)) : zC l yX12_rows cX12_rows 1 (some .int) 2 44 D cA base sA [.ref (base + r0)] h (some (.int rE)) hE := by
  refine g_entry RX12 (by decide) rfl (Nat.le_of_ble_eq_true rfl) ?_
  intro p e s m args below meth c X hr
  unfold fX12_rows at hf
  have hf := zlet_n (x := h) rfl hf
  show zG p l e { frames := 2, cells := 0, slots := 0, locals := 44 } s m args below meth c (MQ below (zQ D cA base h hE (some (.int rE))) args s 0 0 (zA base)) 1 D cA base h 0 [(0, .ref (base + r0))] [] h
  refine g_aload_n X 0 dX12_rows_0 rfl ?_
  refine g_iconst X (v := 0) dX12_rows_1 (by decide) ?_
  obtain ⟨hk1, hf⟩ := zite hf
  refine g_putI X zf12 hk1 0 (by decide) w_f_RX12_86 rfl rfl rfl dX12_rows_2 ?_
  refine g_hp (fun h2 eh2 => ?_)
  have hf := zlet_n eh2 hf
  refine g_aload_n X 0 dX12_rows_5 rfl ?_
  refine g_get X zf12 hk1 3 (by decide) w_f_RX12_329 rfl rfl dX12_rows_6 ?_
  refine g_ifnonnull X 20 dX12_rows_9 (by decide) (fun _ hq => ?_) (fun hq => ?_)
  · have hf := zpos (by rw [hq]; rfl) hf
    refine g_aload_n X 0 dX12_rows_20 rfl ?_
    refine g_aload_n X 0 dX12_rows_21 rfl ?_
    obtain ⟨v4, h3, hch3, hf⟩ := zc2_e hf
    refine g_callV X 0 (sX12_rowMany hch3) zf12 hk1 ydX12_rowMany w_ml_RX12_372 w_instanceMethod_X12_rowMany w_sel_X12_rowMany w_ini_RX12 w_code_X12_rowMany (by decide) rfl (st := [.ref (base + r0)]) rfl rfl (Nat.le_of_ble_eq_true rfl) dX12_rows_22 ?_
    obtain ⟨v6, h5, hch5, hf⟩ := zc2_e hf
    refine g_callV X 1 (sX12_good hch5) zf12 hk1 ydX12_good w_ml_RX12_96 w_instanceMethod_X12_good w_sel_X12_good w_ini_RX12 w_code_X12_good (by decide) rfl (st := []) rfl rfl (Nat.le_of_ble_eq_true rfl) dX12_rows_25 ?_
    obtain ⟨rfl, rfl⟩ := zsm hf
    exact g_iret X hr dX12_rows_28
  · have hf := zneg (by rw [hq]; decide) hf
    refine g_aload_n X 0 dX12_rows_12 rfl ?_
    refine g_iconst X (v := 1) dX12_rows_13 (by decide) ?_
    obtain ⟨v8, h7, hch7, hf⟩ := zc2_e hf
    refine g_callV X 1 (sX12_refused hch7) zf12 hk1 ydX12_refused w_ml_RX12_92 w_instanceMethod_X12_refused w_sel_X12_refused w_ini_RX12 w_code_X12_refused (by decide) rfl (st := []) rfl rfl (Nat.le_of_ble_eq_true rfl) dX12_rows_14 ?_
    refine g_goto X 28 dX12_rows_17 (by decide) ?_
    obtain ⟨rfl, rfl⟩ := zsm hf
    exact g_iret X hr dX12_rows_28

set_option maxHeartbeats 4000000 in
set_option maxRecDepth 100000 in
theorem sX12_hand {l : Launch} {D : va_G} {cA : Nat → ClassId} {base : Nat} {sA : Nat → Nat} {r0 : Nat} {x1 : Int32} {x2 : Int32} {h hE : Zh} {rE : Int32} (hf : fX12_hand r0 x1 x2 h = some (rE, hE)) : zC l yX12_hand cX12_hand 3 (some .int) 1 22 D cA base sA [.ref (base + r0), .int x1, .int x2] h (some (.int rE)) hE := by
  refine g_entry RX12 (by decide) rfl (Nat.le_of_ble_eq_true rfl) ?_
  intro p e s m args below meth c X hr
  unfold fX12_hand at hf
  have hf := zlet_n (x := h) rfl hf
  show zG p l e { frames := 1, cells := 0, slots := 0, locals := 22 } s m args below meth c (MQ below (zQ D cA base h hE (some (.int rE))) args s 0 0 (zA base)) 3 D cA base h 0 [(0, .ref (base + r0)), (1, .int x1), (2, .int x2)] [] h
  refine g_aload_n X 0 dX12_hand_0 rfl ?_
  refine g_iconst X (v := 0) dX12_hand_1 (by decide) ?_
  obtain ⟨hk1, hf⟩ := zite hf
  refine g_putI X zf12 hk1 0 (by decide) w_f_RX12_86 rfl rfl rfl dX12_hand_2 ?_
  refine g_hp (fun h2 eh2 => ?_)
  have hf := zlet_n eh2 hf
  refine g_aload_n X 0 dX12_hand_5 rfl ?_
  refine g_iload_n X 1 dX12_hand_6 rfl ?_
  obtain ⟨v4, h3, hch3, hf⟩ := zc2_e hf
  refine g_callV X 1 (sX12_isHand hch3) zf12 hk1 ydX12_isHand w_ml_RX12_375 w_instanceMethod_X12_isHand w_sel_X12_isHand w_ini_RX12 w_code_X12_isHand (by decide) rfl (st := []) rfl rfl (Nat.le_of_ble_eq_true rfl) dX12_hand_7 ?_
  refine g_if_eq X 43 dX12_hand_10 (by decide) (fun hq => ?_) (fun hq => ?_)
  · have hf := zpos hq hf
    refine g_aload_n X 0 dX12_hand_43 rfl ?_
    refine g_iconst X (v := 1) dX12_hand_44 (by decide) ?_
    obtain ⟨v6, h5, hch5, hf⟩ := zc2_e hf
    refine g_callV X 1 (sX12_refused hch5) zf12 hk1 ydX12_refused w_ml_RX12_92 w_instanceMethod_X12_refused w_sel_X12_refused w_ini_RX12 w_code_X12_refused (by decide) rfl (st := []) rfl rfl (Nat.le_of_ble_eq_true rfl) dX12_hand_45 ?_
    obtain ⟨rfl, rfl⟩ := zsm hf
    exact g_iret X hr dX12_hand_48
  · have hf := zneg hq hf
    refine g_iload_n X 2 dX12_hand_13 rfl ?_
    refine g_iconst X (v := 0) dX12_hand_14 (by decide) ?_
    refine g_aload_n X 0 dX12_hand_15 rfl ?_
    obtain ⟨r_7, hr_7, hf⟩ := zbd hf
    refine g_get X zf12 hk1 3 (by decide) w_f_RX12_329 rfl (zfv_r hr_7 rfl) dX12_hand_16 ?_
    obtain ⟨hk8, hf⟩ := zite hf
    refine g_getN X zf11 hk8 2 (by decide) w_fn_RX12_232 rfl rfl dX12_hand_19 ?_
    refine g_iconst X (v := 1) dX12_hand_22 (by decide) ?_
    refine g_isub X dX12_hand_23 ?_
    obtain ⟨v10, h9, hch9, hf⟩ := zc2_e hf
    refine g_callS X 3 (sX12_in hch9) ysX12_in w_ml_RX12_168 w_static_X12_in w_ini_RX12 w_code_X12_in (by decide) rfl (st := []) rfl rfl (Nat.le_of_ble_eq_true rfl) dX12_hand_24 ?_
    refine g_if_eq X 43 dX12_hand_27 (by decide) (fun hq => ?_) (fun hq => ?_)
    · have hf := zpos hq hf
      refine g_aload_n X 0 dX12_hand_43 rfl ?_
      refine g_iconst X (v := 1) dX12_hand_44 (by decide) ?_
      obtain ⟨v12, h11, hch11, hf⟩ := zc2_e hf
      refine g_callV X 1 (sX12_refused hch11) zf12 hk1 ydX12_refused w_ml_RX12_92 w_instanceMethod_X12_refused w_sel_X12_refused w_ini_RX12 w_code_X12_refused (by decide) rfl (st := []) rfl rfl (Nat.le_of_ble_eq_true rfl) dX12_hand_45 ?_
      obtain ⟨rfl, rfl⟩ := zsm hf
      exact g_iret X hr dX12_hand_48
    · have hf := zneg hq hf
      refine g_aload_n X 0 dX12_hand_30 rfl ?_
      refine g_aload_n X 0 dX12_hand_31 rfl ?_
      refine g_iload_n X 1 dX12_hand_32 rfl ?_
      refine g_iload_n X 2 dX12_hand_33 rfl ?_
      obtain ⟨v14, h13, hch13, hf⟩ := zc2_e hf
      refine g_callV X 2 (sX12_cardOf hch13) zf12 hk1 ydX12_cardOf w_ml_RX12_366 w_instanceMethod_X12_cardOf w_sel_X12_cardOf w_ini_RX12 w_code_X12_cardOf (by decide) rfl (st := [.ref (base + r0)]) rfl rfl (Nat.le_of_ble_eq_true rfl) dX12_hand_34 ?_
      obtain ⟨v16, h15, hch15, hf⟩ := zc2_e hf
      refine g_callV X 1 (sX12_good hch15) zf12 hk1 ydX12_good w_ml_RX12_96 w_instanceMethod_X12_good w_sel_X12_good w_ini_RX12 w_code_X12_good (by decide) rfl (st := []) rfl rfl (Nat.le_of_ble_eq_true rfl) dX12_hand_37 ?_
      refine g_goto X 48 dX12_hand_40 (by decide) ?_
      obtain ⟨rfl, rfl⟩ := zsm hf
      exact g_iret X hr dX12_hand_48

set_option maxHeartbeats 4000000 in
set_option maxRecDepth 100000 in
theorem sX12_handOf {l : Launch} {D : va_G} {cA : Nat → ClassId} {base : Nat} {sA : Nat → Nat} {r0 : Nat} {x1 : Int32} {x2 : Int32} {x3 : Int32} {x4 : Int32} {x5 : Int32} {h hE : Zh} {rE : Int32} (hf : fX12_handOf r0 x1 x2 x3 x4 x5 h = some (rE, hE)) : zC l yX12_handOf cX12_handOf 9 (some .int) 3 70 D cA base sA [.ref (base + r0), .int x1, .int x2, .int x3, .int x4, .int x5] h (some (.int rE)) hE := by
  refine g_entry RX12 (by decide) rfl (Nat.le_of_ble_eq_true rfl) ?_
  intro p e s m args below meth c X hr
  unfold fX12_handOf at hf
  have hf := zlet_n (x := h) rfl hf
  show zG p l e { frames := 3, cells := 0, slots := 0, locals := 70 } s m args below meth c (MQ below (zQ D cA base h hE (some (.int rE))) args s 0 0 (zA base)) 9 D cA base h 0 [(0, .ref (base + r0)), (1, .int x1), (2, .int x2), (3, .int x3), (4, .int x4), (5, .int x5)] [] h
  refine g_aload_n X 0 dX12_handOf_0 rfl ?_
  refine g_iconst X (v := 0) dX12_handOf_1 (by decide) ?_
  obtain ⟨hk1, hf⟩ := zite hf
  refine g_putI X zf12 hk1 0 (by decide) w_f_RX12_86 rfl rfl rfl dX12_handOf_2 ?_
  refine g_hp (fun h2 eh2 => ?_)
  have hf := zlet_n eh2 hf
  refine g_aload_n X 0 dX12_handOf_5 rfl ?_
  refine g_get X zf12 hk1 3 (by decide) w_f_RX12_329 rfl rfl dX12_handOf_6 ?_
  refine g_ifnonnull X 18 dX12_handOf_9 (by decide) (fun _ hq => ?_) (fun hq => ?_)
  · have hf := zpos (by rw [hq]; rfl) hf
    refine g_aload_n X 0 dX12_handOf_18 rfl ?_
    obtain ⟨r_3, hr_3, hf⟩ := zbd hf
    refine g_get X zf12 hk1 18 (by decide) w_f_RX12_20 rfl (zfv_r hr_3 rfl) dX12_handOf_19 ?_
    refine g_astore X [(6, .ref (base + r_3)), (0, .ref (base + r0)), (1, .int x1), (2, .int x2), (3, .int x3), (4, .int x4), (5, .int x5)] dX12_handOf_22 (by decide) rfl ?_
    refine g_aload X 0 dX12_handOf_24 rfl ?_
    refine g_iconst X (v := 0) dX12_handOf_26 (by decide) ?_
    refine g_iload_n X 2 dX12_handOf_27 rfl ?_
    obtain ⟨hk4, hf⟩ := zite hf
    obtain ⟨hi5, hf⟩ := zite hf
    refine g_iast X hk4 hi5 dX12_handOf_28 ?_
    refine g_hp (fun h6 eh6 => ?_)
    have hf := zlet_n eh6 hf
    refine g_aload X 0 dX12_handOf_29 rfl ?_
    refine g_iconst X (v := 1) dX12_handOf_31 (by decide) ?_
    refine g_iload_n X 3 dX12_handOf_32 rfl ?_
    obtain ⟨hi7, hf⟩ := zite hf
    refine g_iast X hk4 hi7 dX12_handOf_33 ?_
    refine g_hp (fun h8 eh8 => ?_)
    have hf := zlet_n eh8 hf
    refine g_aload X 0 dX12_handOf_34 rfl ?_
    refine g_iconst X (v := 2) dX12_handOf_36 (by decide) ?_
    refine g_iload_n X 4 dX12_handOf_37 rfl ?_
    obtain ⟨hi9, hf⟩ := zite hf
    refine g_iast X hk4 hi9 dX12_handOf_38 ?_
    refine g_hp (fun h10 eh10 => ?_)
    have hf := zlet_n eh10 hf
    refine g_aload X 0 dX12_handOf_39 rfl ?_
    refine g_iconst X (v := 3) dX12_handOf_41 (by decide) ?_
    refine g_iload X 5 dX12_handOf_42 rfl ?_
    obtain ⟨hi11, hf⟩ := zite hf
    refine g_iast X hk4 hi11 dX12_handOf_44 ?_
    refine g_hp (fun h12 eh12 => ?_)
    have hf := zlet_n eh12 hf
    refine g_aload X 0 dX12_handOf_45 rfl ?_
    refine g_iconst X (v := 4) dX12_handOf_47 (by decide) ?_
    refine g_iload X 6 dX12_handOf_48 rfl ?_
    obtain ⟨hi13, hf⟩ := zite hf
    refine g_iast X hk4 hi13 dX12_handOf_50 ?_
    refine g_hp (fun h14 eh14 => ?_)
    have hf := zlet_n eh14 hf
    refine g_iconst X (v := 0) dX12_handOf_51 (by decide) ?_
    refine g_istore X [(7, .int ((0 : Int32))), (6, .ref (base + r_3)), (0, .ref (base + r0)), (1, .int x1), (2, .int x2), (3, .int x3), (4, .int x4), (5, .int x5)] dX12_handOf_52 (by decide) rfl ?_
    refine g_sub [2, 1, 0] rfl ?_
    obtain ⟨qq, hlp, hf⟩ := zbd hf
    refine lp_snd (body := (fun q : Int32 × Zh => bX12_handOf_54 h r0 r_3 q.1 q.2)) (P := (fun q : Int32 × Zh => zG p l e { frames := 3, cells := 0, slots := 0, locals := 70 } s m args below meth c (MQ below (zQ D cA base h hE (some (.int rE))) args s 0 0 (zA base)) 9 D cA base h 54 [(0, .ref (base + r0)), (6, .ref (base + r_3)), (7, .int q.1)] [] q.2)) (E := (fun (en : Nat) (q : Int32 × Zh) => if en = 1 then zG p l e { frames := 3, cells := 0, slots := 0, locals := 70 } s m args below meth c (MQ below (zQ D cA base h hE (some (.int rE))) args s 0 0 (zA base)) 9 D cA base h 93 [(0, .ref (base + r0))] [] q.2 else if en = 2 then zG p l e { frames := 3, cells := 0, slots := 0, locals := 70 } s m args below meth c (MQ below (zQ D cA base h hE (some (.int rE))) args s 0 0 (zA base)) 9 D cA base h 105 [(0, .ref (base + r0))] [] q.2 else if en = 3 then zG p l e { frames := 3, cells := 0, slots := 0, locals := 70 } s m args below meth c (MQ below (zQ D cA base h hE (some (.int rE))) args s 0 0 (zA base)) 9 D cA base h 146 [(0, .ref (base + r0))] [] q.2 else zG p l e { frames := 3, cells := 0, slots := 0, locals := 70 } s m args below meth c (MQ below (zQ D cA base h hE (some (.int rE))) args s 0 0 (zA base)) 9 D cA base h 164 [(0, .ref (base + r0)), (6, .ref (base + r_3))] [] q.2)) ?_ zB ((0 : Int32), h14) qq.1 qq.2 hlp ?_
    · intro q e_54 q_54 hf hc0 hc1
      obtain ⟨x7_54, h_54⟩ := q
      have hf : bX12_handOf_54 h r0 r_3 x7_54 h_54 = some (e_54, q_54) := hf
      unfold bX12_handOf_54 at hf
      show zG p l e { frames := 3, cells := 0, slots := 0, locals := 70 } s m args below meth c (MQ below (zQ D cA base h hE (some (.int rE))) args s 0 0 (zA base)) 9 D cA base h 54 [(0, .ref (base + r0)), (6, .ref (base + r_3)), (7, .int x7_54)] [] h_54
      refine g_iload X 2 dX12_handOf_54 rfl ?_
      refine g_iconst X (v := 5) dX12_handOf_56 (by decide) ?_
      refine g_icmp_ge X 164 dX12_handOf_57 (by decide) (fun hq => ?_) (fun hq => ?_)
      · have hf := zpos hq hf
        cases hf
        have hc1 := hc1 (by decide)
        exact g_sub [0, 1] rfl (zun_n (by decide) (zun_n (by decide) (zun_n (by decide) hc1)))
      · have hf := zneg hq hf
        refine g_iload X 2 dX12_handOf_60 rfl ?_
        refine g_aload_n X 0 dX12_handOf_62 rfl ?_
        obtain ⟨r_15, hr_15, hf⟩ := zbd hf
        refine g_get X zf12 hk1 3 (by decide) w_f_RX12_329 rfl (zfv_r hr_15 rfl) dX12_handOf_63 ?_
        obtain ⟨hk16, hf⟩ := zite hf
        refine g_getN X zf11 hk16 2 (by decide) w_fn_RX12_232 rfl rfl dX12_handOf_66 ?_
        have hJ111 : ∀ (x7_111 : Int32) (h_111 : Zh), jX12_handOf_111 h r0 r_3 x7_111 h_111 = some (e_54, q_54) → zG p l e { frames := 3, cells := 0, slots := 0, locals := 70 } s m args below meth c (MQ below (zQ D cA base h hE (some (.int rE))) args s 0 0 (zA base)) 9 D cA base h 111 [(0, .ref (base + r0)), (6, .ref (base + r_3)), (7, .int x7_111)] [] h_111 := by
          intro x7_111 h_111 hf
          unfold jX12_handOf_111 at hf
          refine g_iconst X (v := 0) dX12_handOf_111 (by decide) ?_
          refine g_istore X [(8, .int ((0 : Int32))), (0, .ref (base + r0)), (6, .ref (base + r_3)), (7, .int x7_111)] dX12_handOf_112 (by decide) rfl ?_
          refine g_sub [1, 2, 3, 0] rfl ?_
          obtain ⟨qq, hlp, hf⟩ := zbd hf
          refine lp_snd (body := (fun q : Int32 × Zh => bX12_handOf_114 h r0 r_3 x7_111 q.1 q.2)) (P := (fun q : Int32 × Zh => zG p l e { frames := 3, cells := 0, slots := 0, locals := 70 } s m args below meth c (MQ below (zQ D cA base h hE (some (.int rE))) args s 0 0 (zA base)) 9 D cA base h 114 [(0, .ref (base + r0)), (6, .ref (base + r_3)), (7, .int x7_111), (8, .int q.1)] [] q.2)) (E := (fun (en : Nat) (q : Int32 × Zh) => if en = 1 then zG p l e { frames := 3, cells := 0, slots := 0, locals := 70 } s m args below meth c (MQ below (zQ D cA base h hE (some (.int rE))) args s 0 0 (zA base)) 9 D cA base h 146 [(0, .ref (base + r0))] [] q.2 else zG p l e { frames := 3, cells := 0, slots := 0, locals := 70 } s m args below meth c (MQ below (zQ D cA base h hE (some (.int rE))) args s 0 0 (zA base)) 9 D cA base h 158 [(0, .ref (base + r0)), (6, .ref (base + r_3)), (7, .int x7_111)] [] q.2)) ?_ zB ((0 : Int32), h_111) qq.1 qq.2 hlp ?_
          · intro q e_114 q_114 hf hc0 hc1
            obtain ⟨x8_114, h_114⟩ := q
            have hf : bX12_handOf_114 h r0 r_3 x7_111 x8_114 h_114 = some (e_114, q_114) := hf
            unfold bX12_handOf_114 at hf
            show zG p l e { frames := 3, cells := 0, slots := 0, locals := 70 } s m args below meth c (MQ below (zQ D cA base h hE (some (.int rE))) args s 0 0 (zA base)) 9 D cA base h 114 [(0, .ref (base + r0)), (6, .ref (base + r_3)), (7, .int x7_111), (8, .int x8_114)] [] h_114
            refine g_iload X 3 dX12_handOf_114 rfl ?_
            refine g_iload X 2 dX12_handOf_116 rfl ?_
            refine g_icmp_ge X 158 dX12_handOf_118 (by decide) (fun hq => ?_) (fun hq => ?_)
            · have hf := zpos hq hf
              cases hf
              have hc1 := hc1 (by decide)
              exact g_sub [0, 1, 2] rfl (zun_n (by decide) hc1)
            · have hf := zneg hq hf
              refine g_iload X 2 dX12_handOf_121 rfl ?_
              refine g_aload_n X 0 dX12_handOf_123 rfl ?_
              obtain ⟨r_17, hr_17, hf⟩ := zbd hf
              refine g_get X zf12 hk1 3 (by decide) w_f_RX12_329 rfl (zfv_r hr_17 rfl) dX12_handOf_124 ?_
              obtain ⟨hk18, hf⟩ := zite hf
              refine g_getN X zf11 hk18 2 (by decide) w_fn_RX12_232 rfl rfl dX12_handOf_127 ?_
              refine g_icmp_ge X 158 dX12_handOf_130 (by decide) (fun hq => ?_) (fun hq => ?_)
              · have hf := zpos hq hf
                cases hf
                have hc1 := hc1 (by decide)
                exact g_sub [0, 1, 2] rfl (zun_n (by decide) hc1)
              · have hf := zneg hq hf
                refine g_aload X 1 dX12_handOf_133 rfl ?_
                refine g_iload X 3 dX12_handOf_135 rfl ?_
                obtain ⟨hi19, hf⟩ := zite hf
                refine g_iald X hk4 hi19 dX12_handOf_137 ?_
                refine g_aload X 1 dX12_handOf_138 rfl ?_
                refine g_iload X 2 dX12_handOf_140 rfl ?_
                obtain ⟨hi20, hf⟩ := zite hf
                refine g_iald X hk4 hi20 dX12_handOf_142 ?_
                refine g_icmp_ne X 152 dX12_handOf_143 (by decide) (fun hq => ?_) (fun hq => ?_)
                · have hf := zneg hq hf
                  obtain ⟨y21, ey21⟩ : ∃ y : Int32, y = x8_114 + (1 : Int32) := ⟨_, rfl⟩
                  have hf := zlet_n ey21 hf
                  refine g_iinc X (j := 3) [(8, .int y21), (0, .ref (base + r0)), (6, .ref (base + r_3)), (7, .int x7_111)] dX12_handOf_152 rfl (by rw [ey21]; rfl) (by decide) rfl ?_
                  refine g_goto X 114 dX12_handOf_155 (by decide) ?_
                  cases hf
                  exact g_sub [1, 2, 3, 0] rfl (hc0 rfl)
                · have hf := zpos hq hf
                  cases hf
                  have hc1 := hc1 (by decide)
                  exact g_sub [0] rfl (zun_p rfl hc1)
          · obtain ⟨ee, x8_k114, h_k114⟩ := qq
            have hf : kX12_handOf_114 h r0 r_3 x7_111 ee x8_k114 h_k114 = some (e_54, q_54) := hf
            unfold kX12_handOf_114 at hf
            by_cases hee0 : ee = 1
            · have hf := zpos hee0 hf
              refine zifp hee0 ?_
              show zG p l e { frames := 3, cells := 0, slots := 0, locals := 70 } s m args below meth c (MQ below (zQ D cA base h hE (some (.int rE))) args s 0 0 (zA base)) 9 D cA base h 146 [(0, .ref (base + r0))] [] h_k114
              cases hf
              have hc1 := hc1 (by decide)
              exact g_sub [0] rfl (zun_p rfl (zun_n (by decide) (zun_n (by decide) hc1)))
            have hf := zneg hee0 hf
            refine zifn hee0 ?_
            show zG p l e { frames := 3, cells := 0, slots := 0, locals := 70 } s m args below meth c (MQ below (zQ D cA base h hE (some (.int rE))) args s 0 0 (zA base)) 9 D cA base h 158 [(0, .ref (base + r0)), (6, .ref (base + r_3)), (7, .int x7_111)] [] h_k114
            obtain ⟨y22, ey22⟩ : ∃ y : Int32, y = x7_111 + (1 : Int32) := ⟨_, rfl⟩
            have hf := zlet_n ey22 hf
            refine g_iinc X (j := 2) [(7, .int y22), (0, .ref (base + r0)), (6, .ref (base + r_3))] dX12_handOf_158 rfl (by rw [ey22]; rfl) (by decide) rfl ?_
            refine g_goto X 54 dX12_handOf_161 (by decide) ?_
            cases hf
            exact g_sub [1, 2, 0] rfl (hc0 rfl)
        refine g_icmp_ge X 96 dX12_handOf_69 (by decide) (fun hq => ?_) (fun hq => ?_)
        · have hf := zpos hq hf
          refine g_aload X 1 dX12_handOf_96 rfl ?_
          refine g_iload X 2 dX12_handOf_98 rfl ?_
          obtain ⟨hi23, hf⟩ := zite hf
          refine g_iald X hk4 hi23 dX12_handOf_100 ?_
          refine g_iconst X (v := -1) dX12_handOf_101 (by decide) ?_
          refine g_icmp_eq X 111 dX12_handOf_102 (by decide) (fun hq => ?_) (fun hq => ?_)
          · have hf := zpos hq hf
            refine g_sub [0, 1, 2] rfl ?_
            exact hJ111 _ _ hf
          · have hf := zneg hq hf
            cases hf
            have hc1 := hc1 (by decide)
            exact g_sub [0] rfl (zun_p rfl (zun_n (by decide) hc1))
        · have hf := zneg hq hf
          refine g_aload X 1 dX12_handOf_72 rfl ?_
          refine g_iload X 2 dX12_handOf_74 rfl ?_
          obtain ⟨hi24, hf⟩ := zite hf
          refine g_iald X hk4 hi24 dX12_handOf_76 ?_
          refine g_iconst X (v := 0) dX12_handOf_77 (by decide) ?_
          refine g_aload_n X 0 dX12_handOf_78 rfl ?_
          obtain ⟨r_25, hr_25, hf⟩ := zbd hf
          refine g_get X zf12 hk1 3 (by decide) w_f_RX12_329 rfl (zfv_r hr_25 rfl) dX12_handOf_79 ?_
          obtain ⟨hk26, hf⟩ := zite hf
          refine g_getN X zf11 hk26 0 (by decide) w_fn_RX12_194 rfl rfl dX12_handOf_82 ?_
          refine g_iconst X (v := 1) dX12_handOf_85 (by decide) ?_
          refine g_isub X dX12_handOf_86 ?_
          obtain ⟨v28, h27, hch27, hf⟩ := zc2_e hf
          refine g_callS X 3 (sX12_in hch27) ysX12_in w_ml_RX12_168 w_static_X12_in w_ini_RX12 w_code_X12_in (by decide) rfl (st := []) rfl rfl (Nat.le_of_ble_eq_true rfl) dX12_handOf_87 ?_
          refine g_if_ne X 111 dX12_handOf_90 (by decide) (fun hq => ?_) (fun hq => ?_)
          · have hf := zneg hq hf
            refine g_sub [0, 1, 2] rfl ?_
            exact hJ111 _ _ hf
          · have hf := zpos hq hf
            cases hf
            have hc1 := hc1 (by decide)
            exact g_sub [0] rfl (zun_p rfl hc1)
    · obtain ⟨ee, x7_k54, h_k54⟩ := qq
      have hf : kX12_handOf_54 h r0 r_3 ee x7_k54 h_k54 = some (rE, hE) := hf
      unfold kX12_handOf_54 at hf
      by_cases hee0 : ee = 1
      · have hf := zpos hee0 hf
        refine zifp hee0 ?_
        show zG p l e { frames := 3, cells := 0, slots := 0, locals := 70 } s m args below meth c (MQ below (zQ D cA base h hE (some (.int rE))) args s 0 0 (zA base)) 9 D cA base h 93 [(0, .ref (base + r0))] [] h_k54
        refine g_goto X 105 dX12_handOf_93 (by decide) ?_
        refine g_aload_n X 0 dX12_handOf_105 rfl ?_
        refine g_iconst X (v := 2) dX12_handOf_106 (by decide) ?_
        obtain ⟨v30, h29, hch29, hf⟩ := zc2_e hf
        refine g_callV X 1 (sX12_refused hch29) zf12 hk1 ydX12_refused w_ml_RX12_92 w_instanceMethod_X12_refused w_sel_X12_refused w_ini_RX12 w_code_X12_refused (by decide) rfl (st := []) rfl rfl (Nat.le_of_ble_eq_true rfl) dX12_handOf_107 ?_
        obtain ⟨rfl, rfl⟩ := zsm hf
        exact g_iret X hr dX12_handOf_110
      have hf := zneg hee0 hf
      refine zifn hee0 ?_
      by_cases hee1 : ee = 2
      · have hf := zpos hee1 hf
        refine zifp hee1 ?_
        show zG p l e { frames := 3, cells := 0, slots := 0, locals := 70 } s m args below meth c (MQ below (zQ D cA base h hE (some (.int rE))) args s 0 0 (zA base)) 9 D cA base h 105 [(0, .ref (base + r0))] [] h_k54
        refine g_aload_n X 0 dX12_handOf_105 rfl ?_
        refine g_iconst X (v := 2) dX12_handOf_106 (by decide) ?_
        obtain ⟨v32, h31, hch31, hf⟩ := zc2_e hf
        refine g_callV X 1 (sX12_refused hch31) zf12 hk1 ydX12_refused w_ml_RX12_92 w_instanceMethod_X12_refused w_sel_X12_refused w_ini_RX12 w_code_X12_refused (by decide) rfl (st := []) rfl rfl (Nat.le_of_ble_eq_true rfl) dX12_handOf_107 ?_
        obtain ⟨rfl, rfl⟩ := zsm hf
        exact g_iret X hr dX12_handOf_110
      have hf := zneg hee1 hf
      refine zifn hee1 ?_
      by_cases hee2 : ee = 3
      · have hf := zpos hee2 hf
        refine zifp hee2 ?_
        show zG p l e { frames := 3, cells := 0, slots := 0, locals := 70 } s m args below meth c (MQ below (zQ D cA base h hE (some (.int rE))) args s 0 0 (zA base)) 9 D cA base h 146 [(0, .ref (base + r0))] [] h_k54
        refine g_aload_n X 0 dX12_handOf_146 rfl ?_
        refine g_iconst X (v := 2) dX12_handOf_147 (by decide) ?_
        obtain ⟨v34, h33, hch33, hf⟩ := zc2_e hf
        refine g_callV X 1 (sX12_refused hch33) zf12 hk1 ydX12_refused w_ml_RX12_92 w_instanceMethod_X12_refused w_sel_X12_refused w_ini_RX12 w_code_X12_refused (by decide) rfl (st := []) rfl rfl (Nat.le_of_ble_eq_true rfl) dX12_handOf_148 ?_
        obtain ⟨rfl, rfl⟩ := zsm hf
        exact g_iret X hr dX12_handOf_151
      have hf := zneg hee2 hf
      refine zifn hee2 ?_
      show zG p l e { frames := 3, cells := 0, slots := 0, locals := 70 } s m args below meth c (MQ below (zQ D cA base h hE (some (.int rE))) args s 0 0 (zA base)) 9 D cA base h 164 [(0, .ref (base + r0)), (6, .ref (base + r_3))] [] h_k54
      refine g_aload_n X 0 dX12_handOf_164 rfl ?_
      refine g_aload_n X 0 dX12_handOf_165 rfl ?_
      refine g_aload X 1 dX12_handOf_166 rfl ?_
      refine g_iconst X (v := 0) dX12_handOf_168 (by decide) ?_
      obtain ⟨v36, h35, hch35, hf⟩ := zc2_e hf
      refine g_callV X 2 (sX12_handNumber hch35) zf12 hk1 ydX12_handNumber w_ml_RX12_347 w_instanceMethod_X12_handNumber w_sel_X12_handNumber w_ini_RX12 w_code_X12_handNumber (by decide) rfl (st := [.ref (base + r0)]) rfl rfl (Nat.le_of_ble_eq_true rfl) dX12_handOf_169 ?_
      obtain ⟨v38, h37, hch37, hf⟩ := zc2_e hf
      refine g_callV X 1 (sX12_good hch37) zf12 hk1 ydX12_good w_ml_RX12_96 w_instanceMethod_X12_good w_sel_X12_good w_ini_RX12 w_code_X12_good (by decide) rfl (st := []) rfl rfl (Nat.le_of_ble_eq_true rfl) dX12_handOf_172 ?_
      obtain ⟨rfl, rfl⟩ := zsm hf
      exact g_iret X hr dX12_handOf_175
  · have hf := zneg (by rw [hq]; decide) hf
    refine g_aload_n X 0 dX12_handOf_12 rfl ?_
    refine g_iconst X (v := 1) dX12_handOf_13 (by decide) ?_
    obtain ⟨v40, h39, hch39, hf⟩ := zc2_e hf
    refine g_callV X 1 (sX12_refused hch39) zf12 hk1 ydX12_refused w_ml_RX12_92 w_instanceMethod_X12_refused w_sel_X12_refused w_ini_RX12 w_code_X12_refused (by decide) rfl (st := []) rfl rfl (Nat.le_of_ble_eq_true rfl) dX12_handOf_14 ?_
    obtain ⟨rfl, rfl⟩ := zsm hf
    exact g_iret X hr dX12_handOf_17

set_option maxHeartbeats 4000000 in
set_option maxRecDepth 100000 in
theorem sX12_row {l : Launch} {D : va_G} {cA : Nat → ClassId} {base : Nat} {sA : Nat → Nat} {r0 : Nat} {x1 : Int32} {x2 : Int32} {h hE : Zh} {rE : Int32} (hf : fX12_row r0 x1 x2 h = some (rE, hE)) : zC l yX12_row cX12_row 3 (some .int) 3 65 D cA base sA [.ref (base + r0), .int x1, .int x2] h (some (.int rE)) hE := by
  refine g_entry RX12 (by decide) rfl (Nat.le_of_ble_eq_true rfl) ?_
  intro p e s m args below meth c X hr
  unfold fX12_row at hf
  have hf := zlet_n (x := h) rfl hf
  show zG p l e { frames := 3, cells := 0, slots := 0, locals := 65 } s m args below meth c (MQ below (zQ D cA base h hE (some (.int rE))) args s 0 0 (zA base)) 3 D cA base h 0 [(0, .ref (base + r0)), (1, .int x1), (2, .int x2)] [] h
  refine g_aload_n X 0 dX12_row_0 rfl ?_
  refine g_iconst X (v := 0) dX12_row_1 (by decide) ?_
  obtain ⟨hk1, hf⟩ := zite hf
  refine g_putI X zf12 hk1 0 (by decide) w_f_RX12_86 rfl rfl rfl dX12_row_2 ?_
  refine g_hp (fun h2 eh2 => ?_)
  have hf := zlet_n eh2 hf
  refine g_aload_n X 0 dX12_row_5 rfl ?_
  refine g_iload_n X 1 dX12_row_6 rfl ?_
  obtain ⟨v4, h3, hch3, hf⟩ := zc2_e hf
  refine g_callV X 1 (sX12_isRow hch3) zf12 hk1 ydX12_isRow w_ml_RX12_378 w_instanceMethod_X12_isRow w_sel_X12_isRow w_ini_RX12 w_code_X12_isRow (by decide) rfl (st := []) rfl rfl (Nat.le_of_ble_eq_true rfl) dX12_row_7 ?_
  refine g_if_eq X 30 dX12_row_10 (by decide) (fun hq => ?_) (fun hq => ?_)
  · have hf := zpos hq hf
    refine g_aload_n X 0 dX12_row_30 rfl ?_
    refine g_iconst X (v := 1) dX12_row_31 (by decide) ?_
    obtain ⟨v6, h5, hch5, hf⟩ := zc2_e hf
    refine g_callV X 1 (sX12_refused hch5) zf12 hk1 ydX12_refused w_ml_RX12_92 w_instanceMethod_X12_refused w_sel_X12_refused w_ini_RX12 w_code_X12_refused (by decide) rfl (st := []) rfl rfl (Nat.le_of_ble_eq_true rfl) dX12_row_32 ?_
    obtain ⟨rfl, rfl⟩ := zsm hf
    exact g_iret X hr dX12_row_35
  · have hf := zneg hq hf
    refine g_iload_n X 2 dX12_row_13 rfl ?_
    refine g_iconst X (v := 0) dX12_row_14 (by decide) ?_
    refine g_aload_n X 0 dX12_row_15 rfl ?_
    obtain ⟨r_7, hr_7, hf⟩ := zbd hf
    refine g_get X zf12 hk1 3 (by decide) w_f_RX12_329 rfl (zfv_r hr_7 rfl) dX12_row_16 ?_
    obtain ⟨hk8, hf⟩ := zite hf
    refine g_getN X zf11 hk8 4 (by decide) w_fn_RX12_257 rfl rfl dX12_row_19 ?_
    refine g_iconst X (v := 1) dX12_row_22 (by decide) ?_
    refine g_isub X dX12_row_23 ?_
    obtain ⟨v10, h9, hch9, hf⟩ := zc2_e hf
    refine g_callS X 3 (sX12_in hch9) ysX12_in w_ml_RX12_168 w_static_X12_in w_ini_RX12 w_code_X12_in (by decide) rfl (st := []) rfl rfl (Nat.le_of_ble_eq_true rfl) dX12_row_24 ?_
    refine g_if_ne X 36 dX12_row_27 (by decide) (fun hq => ?_) (fun hq => ?_)
    · have hf := zneg hq hf
      refine g_aload_n X 0 dX12_row_36 rfl ?_
      refine g_iload_n X 1 dX12_row_37 rfl ?_
      refine g_aload_n X 0 dX12_row_38 rfl ?_
      obtain ⟨r_11, hr_11, hf⟩ := zbd hf
      refine g_get X zf12 hk1 19 (by decide) w_f_RX12_24 rfl (zfv_r hr_11 rfl) dX12_row_39 ?_
      obtain ⟨h12, hch12, hf⟩ := zbd hf
      refine g_callV X 2 (sX12_rowCards hch12) zf12 hk1 ydX12_rowCards w_ml_RX12_381 w_instanceMethod_X12_rowCards w_sel_X12_rowCards w_ini_RX12 w_code_X12_rowCards (by decide) rfl (st := []) rfl rfl (Nat.le_of_ble_eq_true rfl) dX12_row_42 ?_
      refine g_aload_n X 0 dX12_row_45 rfl ?_
      refine g_aload_n X 0 dX12_row_46 rfl ?_
      obtain ⟨r_13, hr_13, hf⟩ := zbd hf
      refine g_get X zf12 hk1 19 (by decide) w_f_RX12_24 rfl (zfv_r hr_13 rfl) dX12_row_47 ?_
      refine g_iload_n X 2 dX12_row_50 rfl ?_
      obtain ⟨hk14, hf⟩ := zite hf
      obtain ⟨hi15, hf⟩ := zite hf
      refine g_iald X hk14 hi15 dX12_row_51 ?_
      obtain ⟨v17, h16, hch16, hf⟩ := zc2_e hf
      refine g_callV X 1 (sX12_good hch16) zf12 hk1 ydX12_good w_ml_RX12_96 w_instanceMethod_X12_good w_sel_X12_good w_ini_RX12 w_code_X12_good (by decide) rfl (st := []) rfl rfl (Nat.le_of_ble_eq_true rfl) dX12_row_52 ?_
      obtain ⟨rfl, rfl⟩ := zsm hf
      exact g_iret X hr dX12_row_55
    · have hf := zpos hq hf
      refine g_aload_n X 0 dX12_row_30 rfl ?_
      refine g_iconst X (v := 1) dX12_row_31 (by decide) ?_
      obtain ⟨v19, h18, hch18, hf⟩ := zc2_e hf
      refine g_callV X 1 (sX12_refused hch18) zf12 hk1 ydX12_refused w_ml_RX12_92 w_instanceMethod_X12_refused w_sel_X12_refused w_ini_RX12 w_code_X12_refused (by decide) rfl (st := []) rfl rfl (Nat.le_of_ble_eq_true rfl) dX12_row_32 ?_
      obtain ⟨rfl, rfl⟩ := zsm hf
      exact g_iret X hr dX12_row_35

set_option maxHeartbeats 4000000 in
set_option maxRecDepth 100000 in
theorem sX12_tilted {l : Launch} {D : va_G} {cA : Nat → ClassId} {base : Nat} {sA : Nat → Nat} {r0 : Nat} {x1 : Int32} {h hE : Zh} {rE : Int32} (hf : fX12_tilted r0 x1 h = some (rE, hE)) : zC l yX12_tilted cX12_tilted 2 (some .int) 3 65 D cA base sA [.ref (base + r0), .int x1] h (some (.int rE)) hE := by
  refine g_entry RX12 (by decide) rfl (Nat.le_of_ble_eq_true rfl) ?_
  intro p e s m args below meth c X hr
  unfold fX12_tilted at hf
  have hf := zlet_n (x := h) rfl hf
  show zG p l e { frames := 3, cells := 0, slots := 0, locals := 65 } s m args below meth c (MQ below (zQ D cA base h hE (some (.int rE))) args s 0 0 (zA base)) 2 D cA base h 0 [(0, .ref (base + r0)), (1, .int x1)] [] h
  refine g_aload_n X 0 dX12_tilted_0 rfl ?_
  refine g_iconst X (v := 0) dX12_tilted_1 (by decide) ?_
  obtain ⟨hk1, hf⟩ := zite hf
  refine g_putI X zf12 hk1 0 (by decide) w_f_RX12_86 rfl rfl rfl dX12_tilted_2 ?_
  refine g_hp (fun h2 eh2 => ?_)
  have hf := zlet_n eh2 hf
  refine g_aload_n X 0 dX12_tilted_5 rfl ?_
  refine g_iload_n X 1 dX12_tilted_6 rfl ?_
  obtain ⟨v4, h3, hch3, hf⟩ := zc2_e hf
  refine g_callV X 1 (sX12_isRow hch3) zf12 hk1 ydX12_isRow w_ml_RX12_378 w_instanceMethod_X12_isRow w_sel_X12_isRow w_ini_RX12 w_code_X12_isRow (by decide) rfl (st := []) rfl rfl (Nat.le_of_ble_eq_true rfl) dX12_tilted_7 ?_
  refine g_if_eq X 29 dX12_tilted_10 (by decide) (fun hq => ?_) (fun hq => ?_)
  · have hf := zpos hq hf
    refine g_aload_n X 0 dX12_tilted_29 rfl ?_
    refine g_iconst X (v := 1) dX12_tilted_30 (by decide) ?_
    obtain ⟨v6, h5, hch5, hf⟩ := zc2_e hf
    refine g_callV X 1 (sX12_refused hch5) zf12 hk1 ydX12_refused w_ml_RX12_92 w_instanceMethod_X12_refused w_sel_X12_refused w_ini_RX12 w_code_X12_refused (by decide) rfl (st := []) rfl rfl (Nat.le_of_ble_eq_true rfl) dX12_tilted_31 ?_
    obtain ⟨rfl, rfl⟩ := zsm hf
    exact g_iret X hr dX12_tilted_34
  · have hf := zneg hq hf
    refine g_aload_n X 0 dX12_tilted_13 rfl ?_
    refine g_iload_n X 1 dX12_tilted_14 rfl ?_
    refine g_aload_n X 0 dX12_tilted_15 rfl ?_
    obtain ⟨r_7, hr_7, hf⟩ := zbd hf
    refine g_get X zf12 hk1 3 (by decide) w_f_RX12_329 rfl (zfv_r hr_7 rfl) dX12_tilted_16 ?_
    obtain ⟨hk8, hf⟩ := zite hf
    obtain ⟨v10, h9, hch9, hf⟩ := zc2_e hf
    refine g_callV X 0 (sX11_tilts hch9) zf11 hk8 ydX11_tilts w_ml_RX12_354 w_instanceMethod_X11_tilts w_sel_X11_tilts w_ini_RX11 w_code_X11_tilts (by decide) rfl (st := [.int x1, .ref (base + r0)]) rfl rfl (Nat.le_of_ble_eq_true rfl) dX12_tilted_19 ?_
    obtain ⟨hn11, hf⟩ := zite hf
    refine g_irem X hn11 dX12_tilted_22 ?_
    obtain ⟨v13, h12, hch12, hf⟩ := zc2_e hf
    refine g_callV X 1 (sX12_good hch12) zf12 hk1 ydX12_good w_ml_RX12_96 w_instanceMethod_X12_good w_sel_X12_good w_ini_RX12 w_code_X12_good (by decide) rfl (st := []) rfl rfl (Nat.le_of_ble_eq_true rfl) dX12_tilted_23 ?_
    refine g_goto X 34 dX12_tilted_26 (by decide) ?_
    obtain ⟨rfl, rfl⟩ := zsm hf
    exact g_iret X hr dX12_tilted_34

set_option maxHeartbeats 4000000 in
set_option maxRecDepth 100000 in
theorem sX12_rowFits {l : Launch} {D : va_G} {cA : Nat → ClassId} {base : Nat} {sA : Nat → Nat} {r0 : Nat} {x1 : Int32} {x2 : Int32} {h hE : Zh} {rE : Int32} (hf : fX12_rowFits r0 x1 x2 h = some (rE, hE)) : zC l yX12_rowFits cX12_rowFits 5 (some .boolean) 2 48 D cA base sA [.ref (base + r0), .int x1, .int x2] h (some (.int rE)) hE := by
  refine g_entry RX12 (by decide) rfl (Nat.le_of_ble_eq_true rfl) ?_
  intro p e s m args below meth c X hr
  unfold fX12_rowFits at hf
  have hf := zlet_n (x := h) rfl hf
  show zG p l e { frames := 2, cells := 0, slots := 0, locals := 48 } s m args below meth c (MQ below (zQ D cA base h hE (some (.int rE))) args s 0 0 (zA base)) 5 D cA base h 0 [(0, .ref (base + r0)), (1, .int x1), (2, .int x2)] [] h
  refine g_aload_n X 0 dX12_rowFits_0 rfl ?_
  refine g_iload_n X 2 dX12_rowFits_1 rfl ?_
  refine g_aload_n X 0 dX12_rowFits_2 rfl ?_
  obtain ⟨hk1, hf⟩ := zite hf
  obtain ⟨r_2, hr_2, hf⟩ := zbd hf
  refine g_get X zf12 hk1 19 (by decide) w_f_RX12_24 rfl (zfv_r hr_2 rfl) dX12_rowFits_3 ?_
  obtain ⟨h3, hch3, hf⟩ := zbd hf
  refine g_callV X 2 (sX12_rowCards hch3) zf12 hk1 ydX12_rowCards w_ml_RX12_381 w_instanceMethod_X12_rowCards w_sel_X12_rowCards w_ini_RX12 w_code_X12_rowCards (by decide) rfl (st := []) rfl rfl (Nat.le_of_ble_eq_true rfl) dX12_rowFits_6 ?_
  refine g_iconst X (v := 0) dX12_rowFits_9 (by decide) ?_
  refine g_istore_n X [(3, .int ((0 : Int32))), (0, .ref (base + r0)), (1, .int x1), (2, .int x2)] dX12_rowFits_10 (by decide) rfl ?_
  refine g_iconst X (v := 0) dX12_rowFits_11 (by decide) ?_
  refine g_istore X [(4, .int ((0 : Int32))), (3, .int ((0 : Int32))), (0, .ref (base + r0)), (1, .int x1), (2, .int x2)] dX12_rowFits_12 (by decide) rfl ?_
  refine g_sub [2, 3, 1, 0] rfl ?_
  obtain ⟨qq, hlp, hf⟩ := zbd hf
  refine lp_snd (body := (fun q : Int32 × Int32 × Zh => bX12_rowFits_14 h r0 x1 q.1 q.2.1 q.2.2)) (P := (fun q : Int32 × Int32 × Zh => zG p l e { frames := 2, cells := 0, slots := 0, locals := 48 } s m args below meth c (MQ below (zQ D cA base h hE (some (.int rE))) args s 0 0 (zA base)) 5 D cA base h 14 [(0, .ref (base + r0)), (1, .int x1), (3, .int q.1), (4, .int q.2.1)] [] q.2.2)) (E := (fun (en : Nat) (q : Int32 × Int32 × Zh) => if en = 1 then zG p l e { frames := 2, cells := 0, slots := 0, locals := 48 } s m args below meth c (MQ below (zQ D cA base h hE (some (.int rE))) args s 0 0 (zA base)) 5 D cA base h 75 [] [] q.2.2 else if en = 2 then zG p l e { frames := 2, cells := 0, slots := 0, locals := 48 } s m args below meth c (MQ below (zQ D cA base h hE (some (.int rE))) args s 0 0 (zA base)) 5 D cA base h 134 [] [] q.2.2 else zG p l e { frames := 2, cells := 0, slots := 0, locals := 48 } s m args below meth c (MQ below (zQ D cA base h hE (some (.int rE))) args s 0 0 (zA base)) 5 D cA base h 142 [] [] q.2.2)) ?_ zB ((0 : Int32), ((0 : Int32), h3)) qq.1 qq.2 hlp ?_
  · intro q e_14 q_14 hf hc0 hc1
    obtain ⟨x3_14, x4_14, h_14⟩ := q
    have hf : bX12_rowFits_14 h r0 x1 x3_14 x4_14 h_14 = some (e_14, q_14) := hf
    unfold bX12_rowFits_14 at hf
    show zG p l e { frames := 2, cells := 0, slots := 0, locals := 48 } s m args below meth c (MQ below (zQ D cA base h hE (some (.int rE))) args s 0 0 (zA base)) 5 D cA base h 14 [(0, .ref (base + r0)), (1, .int x1), (3, .int x3_14), (4, .int x4_14)] [] h_14
    refine g_iload X 3 dX12_rowFits_14 rfl ?_
    refine g_aload_n X 0 dX12_rowFits_16 rfl ?_
    obtain ⟨r_4, hr_4, hf⟩ := zbd hf
    refine g_get X zf12 hk1 3 (by decide) w_f_RX12_329 rfl (zfv_r hr_4 rfl) dX12_rowFits_17 ?_
    obtain ⟨hk5, hf⟩ := zite hf
    refine g_getN X zf11 hk5 4 (by decide) w_fn_RX12_257 rfl rfl dX12_rowFits_20 ?_
    refine g_icmp_ge X 142 dX12_rowFits_23 (by decide) (fun hq => ?_) (fun hq => ?_)
    · have hf := zpos hq hf
      cases hf
      have hc1 := hc1 (by decide)
      exact g_sub [] rfl (zun_n (by decide) (zun_n (by decide) hc1))
    · have hf := zneg hq hf
      refine g_aload_n X 0 dX12_rowFits_26 rfl ?_
      refine g_iload_n X 1 dX12_rowFits_27 rfl ?_
      refine g_aload_n X 0 dX12_rowFits_28 rfl ?_
      obtain ⟨r_6, hr_6, hf⟩ := zbd hf
      refine g_get X zf12 hk1 19 (by decide) w_f_RX12_24 rfl (zfv_r hr_6 rfl) dX12_rowFits_29 ?_
      refine g_iload X 3 dX12_rowFits_32 rfl ?_
      obtain ⟨hk7, hf⟩ := zite hf
      obtain ⟨hi8, hf⟩ := zite hf
      refine g_iald X hk7 hi8 dX12_rowFits_34 ?_
      obtain ⟨v10, h9, hch9, hf⟩ := zc2_e hf
      refine g_callV X 2 (sX12_has hch9) zf12 hk1 ydX12_has w_ml_RX12_369 w_instanceMethod_X12_has w_sel_X12_has w_ini_RX12 w_code_X12_has (by decide) rfl (st := []) rfl rfl (Nat.le_of_ble_eq_true rfl) dX12_rowFits_35 ?_
      refine g_if_eq X 75 dX12_rowFits_38 (by decide) (fun hq => ?_) (fun hq => ?_)
      · have hf := zpos hq hf
        cases hf
        have hc1 := hc1 (by decide)
        exact g_sub [] rfl (zun_p rfl hc1)
      · have hf := zneg hq hf
        refine g_aload_n X 0 dX12_rowFits_41 rfl ?_
        obtain ⟨r_11, hr_11, hf⟩ := zbd hf
        refine g_get X zf12 hk1 3 (by decide) w_f_RX12_329 rfl (zfv_r hr_11 rfl) dX12_rowFits_42 ?_
        obtain ⟨hk12, hf⟩ := zite hf
        refine g_getN X zf11 hk12 8 (by decide) w_fn_RX12_245 rfl rfl dX12_rowFits_45 ?_
        have hJ77 : ∀ (x3_77 : Int32) (x4_77 : Int32) (h_77 : Zh), jX12_rowFits_77 h r0 x1 x3_77 x4_77 h_77 = some (e_14, q_14) → zG p l e { frames := 2, cells := 0, slots := 0, locals := 48 } s m args below meth c (MQ below (zQ D cA base h hE (some (.int rE))) args s 0 0 (zA base)) 5 D cA base h 77 [(0, .ref (base + r0)), (1, .int x1), (3, .int x3_77), (4, .int x4_77)] [] h_77 := by
          intro x3_77 x4_77 h_77 hf
          unfold jX12_rowFits_77 at hf
          refine g_aload_n X 0 dX12_rowFits_77 rfl ?_
          obtain ⟨r_13, hr_13, hf⟩ := zbd hf
          refine g_get X zf12 hk1 3 (by decide) w_f_RX12_329 rfl (zfv_r hr_13 rfl) dX12_rowFits_78 ?_
          obtain ⟨hk14, hf⟩ := zite hf
          refine g_getN X zf11 hk14 7 (by decide) w_fn_RX12_228 rfl rfl dX12_rowFits_81 ?_
          refine g_if_ne X 90 dX12_rowFits_84 (by decide) (fun hq => ?_) (fun hq => ?_)
          · have hf := zneg hq hf
            refine g_sub [0, 1, 2, 3] rfl ?_
            obtain ⟨qq, hlp, hf⟩ := zbd hf
            refine lp_snd (body := (fun q : Int32 × Zh => bX12_rowFits_90 h r0 x1 x4_77 q.1 q.2)) (P := (fun q : Int32 × Zh => zG p l e { frames := 2, cells := 0, slots := 0, locals := 48 } s m args below meth c (MQ below (zQ D cA base h hE (some (.int rE))) args s 0 0 (zA base)) 5 D cA base h 90 [(0, .ref (base + r0)), (1, .int x1), (3, .int q.1), (4, .int x4_77)] [] q.2)) (E := (fun (en : Nat) (q : Int32 × Zh) => zG p l e { frames := 2, cells := 0, slots := 0, locals := 48 } s m args below meth c (MQ below (zQ D cA base h hE (some (.int rE))) args s 0 0 (zA base)) 5 D cA base h 123 [(0, .ref (base + r0)), (1, .int x1), (3, .int q.1), (4, .int x4_77)] [] q.2)) ?_ zB (x3_77, h_77) qq.1 qq.2 hlp ?_
            · intro q e_90 q_90 hf hc0 hc1
              obtain ⟨x3_90, h_90⟩ := q
              have hf : bX12_rowFits_90 h r0 x1 x4_77 x3_90 h_90 = some (e_90, q_90) := hf
              unfold bX12_rowFits_90 at hf
              show zG p l e { frames := 2, cells := 0, slots := 0, locals := 48 } s m args below meth c (MQ below (zQ D cA base h hE (some (.int rE))) args s 0 0 (zA base)) 5 D cA base h 90 [(0, .ref (base + r0)), (1, .int x1), (3, .int x3_90), (4, .int x4_77)] [] h_90
              refine g_iload_n X 2 dX12_rowFits_90 rfl ?_
              refine g_aload_n X 0 dX12_rowFits_91 rfl ?_
              obtain ⟨r_15, hr_15, hf⟩ := zbd hf
              refine g_get X zf12 hk1 3 (by decide) w_f_RX12_329 rfl (zfv_r hr_15 rfl) dX12_rowFits_92 ?_
              obtain ⟨hk16, hf⟩ := zite hf
              refine g_getN X zf11 hk16 2 (by decide) w_fn_RX12_232 rfl rfl dX12_rowFits_95 ?_
              refine g_icmp_ge X 123 dX12_rowFits_98 (by decide) (fun hq => ?_) (fun hq => ?_)
              · have hf := zpos hq hf
                cases hf
                have hc1 := hc1 (by decide)
                exact g_sub [0, 1, 2, 3] rfl hc1
              · have hf := zneg hq hf
                refine g_aload_n X 0 dX12_rowFits_101 rfl ?_
                refine g_iload_n X 1 dX12_rowFits_102 rfl ?_
                refine g_iload_n X 2 dX12_rowFits_103 rfl ?_
                obtain ⟨v18, h17, hch17, hf⟩ := zc2_e hf
                refine g_callV X 2 (sX12_cardOf hch17) zf12 hk1 ydX12_cardOf w_ml_RX12_366 w_instanceMethod_X12_cardOf w_sel_X12_cardOf w_ini_RX12 w_code_X12_cardOf (by decide) rfl (st := []) rfl rfl (Nat.le_of_ble_eq_true rfl) dX12_rowFits_104 ?_
                refine g_aload_n X 0 dX12_rowFits_107 rfl ?_
                obtain ⟨r_19, hr_19, hf⟩ := zbd hf
                refine g_get X zf12 hk1 19 (by decide) w_f_RX12_24 rfl (zfv_r hr_19 rfl) dX12_rowFits_108 ?_
                refine g_iload X 3 dX12_rowFits_111 rfl ?_
                obtain ⟨hk20, hf⟩ := zite hf
                obtain ⟨hi21, hf⟩ := zite hf
                refine g_iald X hk20 hi21 dX12_rowFits_113 ?_
                refine g_icmp_eq X 123 dX12_rowFits_114 (by decide) (fun hq => ?_) (fun hq => ?_)
                · have hf := zpos hq hf
                  cases hf
                  have hc1 := hc1 (by decide)
                  exact g_sub [0, 1, 2, 3] rfl hc1
                · have hf := zneg hq hf
                  obtain ⟨y22, ey22⟩ : ∃ y : Int32, y = x3_90 + (1 : Int32) := ⟨_, rfl⟩
                  have hf := zlet_n ey22 hf
                  refine g_iinc X (j := 2) [(3, .int y22), (0, .ref (base + r0)), (1, .int x1), (4, .int x4_77)] dX12_rowFits_117 rfl (by rw [ey22]; rfl) (by decide) rfl ?_
                  refine g_goto X 90 dX12_rowFits_120 (by decide) ?_
                  cases hf
                  exact g_sub [1, 2, 0, 3] rfl (hc0 rfl)
            · obtain ⟨ee, x3_k90, h_k90⟩ := qq
              have hf : kX12_rowFits_90 h r0 x1 x4_77 ee x3_k90 h_k90 = some (e_14, q_14) := hf
              unfold kX12_rowFits_90 at hf
              show zG p l e { frames := 2, cells := 0, slots := 0, locals := 48 } s m args below meth c (MQ below (zQ D cA base h hE (some (.int rE))) args s 0 0 (zA base)) 5 D cA base h 123 [(0, .ref (base + r0)), (1, .int x1), (3, .int x3_k90), (4, .int x4_77)] [] h_k90
              refine g_iload_n X 2 dX12_rowFits_123 rfl ?_
              refine g_aload_n X 0 dX12_rowFits_124 rfl ?_
              obtain ⟨r_23, hr_23, hf⟩ := zbd hf
              refine g_get X zf12 hk1 3 (by decide) w_f_RX12_329 rfl (zfv_r hr_23 rfl) dX12_rowFits_125 ?_
              obtain ⟨hk24, hf⟩ := zite hf
              refine g_getN X zf11 hk24 2 (by decide) w_fn_RX12_232 rfl rfl dX12_rowFits_128 ?_
              refine g_icmp_ne X 136 dX12_rowFits_131 (by decide) (fun hq => ?_) (fun hq => ?_)
              · have hf := zneg hq hf
                obtain ⟨y25, ey25⟩ : ∃ y : Int32, y = x4_77 + (1 : Int32) := ⟨_, rfl⟩
                have hf := zlet_n ey25 hf
                refine g_iinc X (j := 3) [(4, .int y25), (0, .ref (base + r0)), (1, .int x1), (3, .int x3_k90)] dX12_rowFits_136 rfl (by rw [ey25]; rfl) (by decide) rfl ?_
                refine g_goto X 14 dX12_rowFits_139 (by decide) ?_
                cases hf
                exact g_sub [1, 2, 3, 0] rfl (hc0 rfl)
              · have hf := zpos hq hf
                cases hf
                have hc1 := hc1 (by decide)
                exact g_sub [] rfl (zun_p rfl (zun_n (by decide) hc1))
          · have hf := zpos hq hf
            refine g_goto X 136 dX12_rowFits_87 (by decide) ?_
            obtain ⟨y26, ey26⟩ : ∃ y : Int32, y = x4_77 + (1 : Int32) := ⟨_, rfl⟩
            have hf := zlet_n ey26 hf
            refine g_iinc X (j := 3) [(4, .int y26), (0, .ref (base + r0)), (1, .int x1), (3, .int x3_77)] dX12_rowFits_136 rfl (by rw [ey26]; rfl) (by decide) rfl ?_
            refine g_goto X 14 dX12_rowFits_139 (by decide) ?_
            cases hf
            exact g_sub [1, 2, 3, 0] rfl (hc0 rfl)
        refine g_if_eq X 77 dX12_rowFits_48 (by decide) (fun hq => ?_) (fun hq => ?_)
        · have hf := zpos hq hf
          refine g_sub [0, 1, 2, 3] rfl ?_
          exact hJ77 _ _ _ hf
        · have hf := zneg hq hf
          refine g_iload X 3 dX12_rowFits_51 rfl ?_
          refine g_if_le X 77 dX12_rowFits_53 (by decide) (fun hq => ?_) (fun hq => ?_)
          · have hf := zpos hq hf
            refine g_sub [0, 1, 2, 3] rfl ?_
            exact hJ77 _ _ _ hf
          · have hf := zneg hq hf
            refine g_aload_n X 0 dX12_rowFits_56 rfl ?_
            obtain ⟨r_27, hr_27, hf⟩ := zbd hf
            refine g_get X zf12 hk1 19 (by decide) w_f_RX12_24 rfl (zfv_r hr_27 rfl) dX12_rowFits_57 ?_
            refine g_iload X 3 dX12_rowFits_60 rfl ?_
            obtain ⟨hk28, hf⟩ := zite hf
            obtain ⟨hi29, hf⟩ := zite hf
            refine g_iald X hk28 hi29 dX12_rowFits_62 ?_
            refine g_aload_n X 0 dX12_rowFits_63 rfl ?_
            obtain ⟨r_30, hr_30, hf⟩ := zbd hf
            refine g_get X zf12 hk1 19 (by decide) w_f_RX12_24 rfl (zfv_r hr_30 rfl) dX12_rowFits_64 ?_
            refine g_iload X 3 dX12_rowFits_67 rfl ?_
            refine g_iconst X (v := 1) dX12_rowFits_69 (by decide) ?_
            refine g_isub X dX12_rowFits_70 ?_
            obtain ⟨hk31, hf⟩ := zite hf
            obtain ⟨hi32, hf⟩ := zite hf
            refine g_iald X hk31 hi32 dX12_rowFits_71 ?_
            refine g_icmp_ge X 77 dX12_rowFits_72 (by decide) (fun hq => ?_) (fun hq => ?_)
            · have hf := zpos hq hf
              refine g_sub [0, 1, 2, 3] rfl ?_
              exact hJ77 _ _ _ hf
            · have hf := zneg hq hf
              cases hf
              have hc1 := hc1 (by decide)
              exact g_sub [] rfl (zun_p rfl hc1)
  · obtain ⟨ee, x3_k14, x4_k14, h_k14⟩ := qq
    have hf : kX12_rowFits_14 h ee x3_k14 x4_k14 h_k14 = some (rE, hE) := hf
    unfold kX12_rowFits_14 at hf
    by_cases hee0 : ee = 1
    · have hf := zpos hee0 hf
      refine zifp hee0 ?_
      show zG p l e { frames := 2, cells := 0, slots := 0, locals := 48 } s m args below meth c (MQ below (zQ D cA base h hE (some (.int rE))) args s 0 0 (zA base)) 5 D cA base h 75 [] [] h_k14
      refine g_iconst X (v := 0) dX12_rowFits_75 (by decide) ?_
      obtain ⟨rfl, rfl⟩ := zsm hf
      exact g_zret X (Or.inl rfl) hr dX12_rowFits_76
    have hf := zneg hee0 hf
    refine zifn hee0 ?_
    by_cases hee1 : ee = 2
    · have hf := zpos hee1 hf
      refine zifp hee1 ?_
      show zG p l e { frames := 2, cells := 0, slots := 0, locals := 48 } s m args below meth c (MQ below (zQ D cA base h hE (some (.int rE))) args s 0 0 (zA base)) 5 D cA base h 134 [] [] h_k14
      refine g_iconst X (v := 0) dX12_rowFits_134 (by decide) ?_
      obtain ⟨rfl, rfl⟩ := zsm hf
      exact g_zret X (Or.inl rfl) hr dX12_rowFits_135
    have hf := zneg hee1 hf
    refine zifn hee1 ?_
    show zG p l e { frames := 2, cells := 0, slots := 0, locals := 48 } s m args below meth c (MQ below (zQ D cA base h hE (some (.int rE))) args s 0 0 (zA base)) 5 D cA base h 142 [] [] h_k14
    refine g_iconst X (v := 1) dX12_rowFits_142 (by decide) ?_
    obtain ⟨rfl, rfl⟩ := zsm hf
    exact g_zret X (Or.inr rfl) hr dX12_rowFits_143

set_option maxHeartbeats 4000000 in
set_option maxRecDepth 100000 in
theorem sX12_fits {l : Launch} {D : va_G} {cA : Nat → ClassId} {base : Nat} {sA : Nat → Nat} {r0 : Nat} {x1 : Int32} {x2 : Int32} {h hE : Zh} {rE : Int32} (hf : fX12_fits r0 x1 x2 h = some (rE, hE)) : zC l yX12_fits cX12_fits 3 (some .int) 3 72 D cA base sA [.ref (base + r0), .int x1, .int x2] h (some (.int rE)) hE := by
  refine g_entry RX12 (by decide) rfl (Nat.le_of_ble_eq_true rfl) ?_
  intro p e s m args below meth c X hr
  unfold fX12_fits at hf
  have hf := zlet_n (x := h) rfl hf
  show zG p l e { frames := 3, cells := 0, slots := 0, locals := 72 } s m args below meth c (MQ below (zQ D cA base h hE (some (.int rE))) args s 0 0 (zA base)) 3 D cA base h 0 [(0, .ref (base + r0)), (1, .int x1), (2, .int x2)] [] h
  refine g_aload_n X 0 dX12_fits_0 rfl ?_
  refine g_iconst X (v := 0) dX12_fits_1 (by decide) ?_
  obtain ⟨hk1, hf⟩ := zite hf
  refine g_putI X zf12 hk1 0 (by decide) w_f_RX12_86 rfl rfl rfl dX12_fits_2 ?_
  refine g_hp (fun h2 eh2 => ?_)
  have hf := zlet_n eh2 hf
  refine g_aload_n X 0 dX12_fits_5 rfl ?_
  refine g_iload_n X 1 dX12_fits_6 rfl ?_
  obtain ⟨v4, h3, hch3, hf⟩ := zc2_e hf
  refine g_callV X 1 (sX12_isHand hch3) zf12 hk1 ydX12_isHand w_ml_RX12_375 w_instanceMethod_X12_isHand w_sel_X12_isHand w_ini_RX12 w_code_X12_isHand (by decide) rfl (st := []) rfl rfl (Nat.le_of_ble_eq_true rfl) dX12_fits_7 ?_
  refine g_if_eq X 42 dX12_fits_10 (by decide) (fun hq => ?_) (fun hq => ?_)
  · have hf := zpos hq hf
    refine g_aload_n X 0 dX12_fits_42 rfl ?_
    refine g_iconst X (v := 1) dX12_fits_43 (by decide) ?_
    obtain ⟨v6, h5, hch5, hf⟩ := zc2_e hf
    refine g_callV X 1 (sX12_refused hch5) zf12 hk1 ydX12_refused w_ml_RX12_92 w_instanceMethod_X12_refused w_sel_X12_refused w_ini_RX12 w_code_X12_refused (by decide) rfl (st := []) rfl rfl (Nat.le_of_ble_eq_true rfl) dX12_fits_44 ?_
    obtain ⟨rfl, rfl⟩ := zsm hf
    exact g_iret X hr dX12_fits_47
  · have hf := zneg hq hf
    refine g_aload_n X 0 dX12_fits_13 rfl ?_
    refine g_iload_n X 2 dX12_fits_14 rfl ?_
    obtain ⟨v8, h7, hch7, hf⟩ := zc2_e hf
    refine g_callV X 1 (sX12_isRow hch7) zf12 hk1 ydX12_isRow w_ml_RX12_378 w_instanceMethod_X12_isRow w_sel_X12_isRow w_ini_RX12 w_code_X12_isRow (by decide) rfl (st := []) rfl rfl (Nat.le_of_ble_eq_true rfl) dX12_fits_15 ?_
    refine g_if_eq X 42 dX12_fits_18 (by decide) (fun hq => ?_) (fun hq => ?_)
    · have hf := zpos hq hf
      refine g_aload_n X 0 dX12_fits_42 rfl ?_
      refine g_iconst X (v := 1) dX12_fits_43 (by decide) ?_
      obtain ⟨v10, h9, hch9, hf⟩ := zc2_e hf
      refine g_callV X 1 (sX12_refused hch9) zf12 hk1 ydX12_refused w_ml_RX12_92 w_instanceMethod_X12_refused w_sel_X12_refused w_ini_RX12 w_code_X12_refused (by decide) rfl (st := []) rfl rfl (Nat.le_of_ble_eq_true rfl) dX12_fits_44 ?_
      obtain ⟨rfl, rfl⟩ := zsm hf
      exact g_iret X hr dX12_fits_47
    · have hf := zneg hq hf
      refine g_aload_n X 0 dX12_fits_21 rfl ?_
      refine g_aload_n X 0 dX12_fits_22 rfl ?_
      refine g_iload_n X 1 dX12_fits_23 rfl ?_
      refine g_iload_n X 2 dX12_fits_24 rfl ?_
      obtain ⟨v12, h11, hch11, hf⟩ := zc2_e hf
      refine g_callV X 2 (sX12_rowFits hch11) zf12 hk1 ydX12_rowFits w_ml_RX12_385 w_instanceMethod_X12_rowFits w_sel_X12_rowFits w_ini_RX12 w_code_X12_rowFits (by decide) rfl (st := [.ref (base + r0)]) rfl rfl (Nat.le_of_ble_eq_true rfl) dX12_fits_25 ?_
      refine g_if_eq X 35 dX12_fits_28 (by decide) (fun hq => ?_) (fun hq => ?_)
      · have hf := zpos hq hf
        refine g_iconst X (v := 0) dX12_fits_35 (by decide) ?_
        obtain ⟨v14, h13, hch13, hf⟩ := zc2_e hf
        refine g_callV X 1 (sX12_good hch13) zf12 hk1 ydX12_good w_ml_RX12_96 w_instanceMethod_X12_good w_sel_X12_good w_ini_RX12 w_code_X12_good (by decide) rfl (st := []) rfl rfl (Nat.le_of_ble_eq_true rfl) dX12_fits_36 ?_
        refine g_goto X 47 dX12_fits_39 (by decide) ?_
        obtain ⟨rfl, rfl⟩ := zsm hf
        exact g_iret X hr dX12_fits_47
      · have hf := zneg hq hf
        refine g_iconst X (v := 1) dX12_fits_31 (by decide) ?_
        refine g_goto X 36 dX12_fits_32 (by decide) ?_
        obtain ⟨v16, h15, hch15, hf⟩ := zc2_e hf
        refine g_callV X 1 (sX12_good hch15) zf12 hk1 ydX12_good w_ml_RX12_96 w_instanceMethod_X12_good w_sel_X12_good w_ini_RX12 w_code_X12_good (by decide) rfl (st := []) rfl rfl (Nat.le_of_ble_eq_true rfl) dX12_fits_36 ?_
        refine g_goto X 47 dX12_fits_39 (by decide) ?_
        obtain ⟨rfl, rfl⟩ := zsm hf
        exact g_iret X hr dX12_fits_47

set_option maxHeartbeats 4000000 in
set_option maxRecDepth 100000 in
theorem sX12_isOneOrder {l : Launch} {D : va_G} {cA : Nat → ClassId} {base : Nat} {sA : Nat → Nat} {r0 : Nat} {h hE : Zh} {rE : Int32} (hf : fX12_isOneOrder r0 h = some (rE, hE)) : zC l yX12_isOneOrder cX12_isOneOrder 1 (some .boolean) 0 0 D cA base sA [.ref (base + r0)] h (some (.int rE)) hE := by
  refine g_entry RX12 (by decide) rfl (Nat.le_of_ble_eq_true rfl) ?_
  intro p e s m args below meth c X hr
  unfold fX12_isOneOrder at hf
  have hf := zlet_n (x := h) rfl hf
  show zG p l e { frames := 0, cells := 0, slots := 0, locals := 0 } s m args below meth c (MQ below (zQ D cA base h hE (some (.int rE))) args s 0 0 (zA base)) 1 D cA base h 0 [(0, .ref (base + r0))] [] h
  refine g_aload_n X 0 dX12_isOneOrder_0 rfl ?_
  obtain ⟨hk1, hf⟩ := zite hf
  obtain ⟨r_2, hr_2, hf⟩ := zbd hf
  refine g_get X zf12 hk1 3 (by decide) w_f_RX12_329 rfl (zfv_r hr_2 rfl) dX12_isOneOrder_1 ?_
  obtain ⟨hk3, hf⟩ := zite hf
  refine g_getN X zf11 hk3 8 (by decide) w_fn_RX12_245 rfl rfl dX12_isOneOrder_4 ?_
  refine g_if_ne X 20 dX12_isOneOrder_7 (by decide) (fun hq => ?_) (fun hq => ?_)
  · have hf := zneg hq hf
    refine g_iconst X (v := 1) dX12_isOneOrder_20 (by decide) ?_
    refine g_goto X 25 dX12_isOneOrder_21 (by decide) ?_
    obtain ⟨rfl, rfl⟩ := zsm hf
    exact g_zret X (Or.inr rfl) hr dX12_isOneOrder_25
  · have hf := zpos hq hf
    refine g_aload_n X 0 dX12_isOneOrder_10 rfl ?_
    obtain ⟨r_4, hr_4, hf⟩ := zbd hf
    refine g_get X zf12 hk1 3 (by decide) w_f_RX12_329 rfl (zfv_r hr_4 rfl) dX12_isOneOrder_11 ?_
    obtain ⟨hk5, hf⟩ := zite hf
    refine g_getN X zf11 hk5 7 (by decide) w_fn_RX12_228 rfl rfl dX12_isOneOrder_14 ?_
    refine g_if_eq X 24 dX12_isOneOrder_17 (by decide) (fun hq => ?_) (fun hq => ?_)
    · have hf := zpos hq hf
      refine g_iconst X (v := 0) dX12_isOneOrder_24 (by decide) ?_
      obtain ⟨rfl, rfl⟩ := zsm hf
      exact g_zret X (Or.inl rfl) hr dX12_isOneOrder_25
    · have hf := zneg hq hf
      refine g_iconst X (v := 1) dX12_isOneOrder_20 (by decide) ?_
      refine g_goto X 25 dX12_isOneOrder_21 (by decide) ?_
      obtain ⟨rfl, rfl⟩ := zsm hf
      exact g_zret X (Or.inr rfl) hr dX12_isOneOrder_25

set_option maxHeartbeats 4000000 in
set_option maxRecDepth 100000 in
theorem sX12_fittingMany {l : Launch} {D : va_G} {cA : Nat → ClassId} {base : Nat} {sA : Nat → Nat} {r0 : Nat} {h hE : Zh} {rE : Int32} (hf : fX12_fittingMany r0 h = some (rE, hE)) : zC l yX12_fittingMany cX12_fittingMany 1 (some .int) 2 45 D cA base sA [.ref (base + r0)] h (some (.int rE)) hE := by
  refine g_entry RX12 (by decide) rfl (Nat.le_of_ble_eq_true rfl) ?_
  intro p e s m args below meth c X hr
  unfold fX12_fittingMany at hf
  have hf := zlet_n (x := h) rfl hf
  show zG p l e { frames := 2, cells := 0, slots := 0, locals := 45 } s m args below meth c (MQ below (zQ D cA base h hE (some (.int rE))) args s 0 0 (zA base)) 1 D cA base h 0 [(0, .ref (base + r0))] [] h
  refine g_aload_n X 0 dX12_fittingMany_0 rfl ?_
  obtain ⟨hk1, hf⟩ := zite hf
  obtain ⟨v3, h2, hch2, hf⟩ := zc2_e hf
  refine g_callV X 0 (sX12_isOneOrder hch2) zf12 hk1 ydX12_isOneOrder w_ml_RX12_388 w_instanceMethod_X12_isOneOrder w_sel_X12_isOneOrder w_ini_RX12 w_code_X12_isOneOrder (by decide) rfl (st := []) rfl rfl (Nat.le_of_ble_eq_true rfl) dX12_fittingMany_1 ?_
  refine g_if_eq X 27 dX12_fittingMany_4 (by decide) (fun hq => ?_) (fun hq => ?_)
  · have hf := zpos hq hf
    refine g_aload_n X 0 dX12_fittingMany_27 rfl ?_
    obtain ⟨r_4, hr_4, hf⟩ := zbd hf
    refine g_get X zf12 hk1 3 (by decide) w_f_RX12_329 rfl (zfv_r hr_4 rfl) dX12_fittingMany_28 ?_
    obtain ⟨hk5, hf⟩ := zite hf
    refine g_getN X zf11 hk5 2 (by decide) w_fn_RX12_232 rfl rfl dX12_fittingMany_31 ?_
    refine g_aload_n X 0 dX12_fittingMany_34 rfl ?_
    obtain ⟨r_6, hr_6, hf⟩ := zbd hf
    refine g_get X zf12 hk1 3 (by decide) w_f_RX12_329 rfl (zfv_r hr_6 rfl) dX12_fittingMany_35 ?_
    obtain ⟨hk7, hf⟩ := zite hf
    refine g_getN X zf11 hk7 4 (by decide) w_fn_RX12_257 rfl rfl dX12_fittingMany_38 ?_
    obtain ⟨v9, h8, hch8, hf⟩ := zc2_e hf
    refine g_callS X 2 (sX12_rowsOf hch8) ysX12_rowsOf w_ml_RX12_99 w_static_X12_rowsOf w_ini_RX12 w_code_X12_rowsOf (by decide) rfl (st := []) rfl rfl (Nat.le_of_ble_eq_true rfl) dX12_fittingMany_41 ?_
    refine g_l2i X dX12_fittingMany_44 ?_
    refine g_aload_n X 0 dX12_fittingMany_45 rfl ?_
    obtain ⟨r_10, hr_10, hf⟩ := zbd hf
    refine g_get X zf12 hk1 3 (by decide) w_f_RX12_329 rfl (zfv_r hr_10 rfl) dX12_fittingMany_46 ?_
    obtain ⟨hk11, hf⟩ := zite hf
    obtain ⟨v13, h12, hch12, hf⟩ := zc2_e hf
    refine g_callV X 0 (sX11_tilts hch12) zf11 hk11 ydX11_tilts w_ml_RX12_354 w_instanceMethod_X11_tilts w_sel_X11_tilts w_ini_RX11 w_code_X11_tilts (by decide) rfl (st := [.int v9.toInt32]) rfl rfl (Nat.le_of_ble_eq_true rfl) dX12_fittingMany_49 ?_
    refine g_imul X dX12_fittingMany_52 ?_
    obtain ⟨rfl, rfl⟩ := zsm hf
    exact g_iret X hr dX12_fittingMany_53
  · have hf := zneg hq hf
    refine g_aload_n X 0 dX12_fittingMany_7 rfl ?_
    obtain ⟨r_14, hr_14, hf⟩ := zbd hf
    refine g_get X zf12 hk1 3 (by decide) w_f_RX12_329 rfl (zfv_r hr_14 rfl) dX12_fittingMany_8 ?_
    obtain ⟨hk15, hf⟩ := zite hf
    refine g_getN X zf11 hk15 2 (by decide) w_fn_RX12_232 rfl rfl dX12_fittingMany_11 ?_
    refine g_aload_n X 0 dX12_fittingMany_14 rfl ?_
    obtain ⟨r_16, hr_16, hf⟩ := zbd hf
    refine g_get X zf12 hk1 3 (by decide) w_f_RX12_329 rfl (zfv_r hr_16 rfl) dX12_fittingMany_15 ?_
    obtain ⟨hk17, hf⟩ := zite hf
    refine g_getN X zf11 hk17 4 (by decide) w_fn_RX12_257 rfl rfl dX12_fittingMany_18 ?_
    obtain ⟨v19, h18, hch18, hf⟩ := zc2_e hf
    refine g_callS X 2 (sX12_setsOf hch18) ysX12_setsOf w_ml_RX12_391 w_static_X12_setsOf w_ini_RX12 w_code_X12_setsOf (by decide) rfl (st := []) rfl rfl (Nat.le_of_ble_eq_true rfl) dX12_fittingMany_21 ?_
    refine g_goto X 44 dX12_fittingMany_24 (by decide) ?_
    refine g_l2i X dX12_fittingMany_44 ?_
    refine g_aload_n X 0 dX12_fittingMany_45 rfl ?_
    obtain ⟨r_20, hr_20, hf⟩ := zbd hf
    refine g_get X zf12 hk1 3 (by decide) w_f_RX12_329 rfl (zfv_r hr_20 rfl) dX12_fittingMany_46 ?_
    obtain ⟨hk21, hf⟩ := zite hf
    obtain ⟨v23, h22, hch22, hf⟩ := zc2_e hf
    refine g_callV X 0 (sX11_tilts hch22) zf11 hk21 ydX11_tilts w_ml_RX12_354 w_instanceMethod_X11_tilts w_sel_X11_tilts w_ini_RX11 w_code_X11_tilts (by decide) rfl (st := [.int v19.toInt32]) rfl rfl (Nat.le_of_ble_eq_true rfl) dX12_fittingMany_49 ?_
    refine g_imul X dX12_fittingMany_52 ?_
    obtain ⟨rfl, rfl⟩ := zsm hf
    exact g_iret X hr dX12_fittingMany_53

set_option maxHeartbeats 4000000 in
set_option maxRecDepth 100000 in
theorem sX12_fitting {l : Launch} {D : va_G} {cA : Nat → ClassId} {base : Nat} {sA : Nat → Nat} {r0 : Nat} {h hE : Zh} {rE : Int32} (hf : fX12_fitting r0 h = some (rE, hE)) : zC l yX12_fitting cX12_fitting 1 (some .int) 3 65 D cA base sA [.ref (base + r0)] h (some (.int rE)) hE := by
  refine g_entry RX12 (by decide) rfl (Nat.le_of_ble_eq_true rfl) ?_
  intro p e s m args below meth c X hr
  unfold fX12_fitting at hf
  have hf := zlet_n (x := h) rfl hf
  show zG p l e { frames := 3, cells := 0, slots := 0, locals := 65 } s m args below meth c (MQ below (zQ D cA base h hE (some (.int rE))) args s 0 0 (zA base)) 1 D cA base h 0 [(0, .ref (base + r0))] [] h
  refine g_aload_n X 0 dX12_fitting_0 rfl ?_
  refine g_iconst X (v := 0) dX12_fitting_1 (by decide) ?_
  obtain ⟨hk1, hf⟩ := zite hf
  refine g_putI X zf12 hk1 0 (by decide) w_f_RX12_86 rfl rfl rfl dX12_fitting_2 ?_
  refine g_hp (fun h2 eh2 => ?_)
  have hf := zlet_n eh2 hf
  refine g_aload_n X 0 dX12_fitting_5 rfl ?_
  refine g_get X zf12 hk1 3 (by decide) w_f_RX12_329 rfl rfl dX12_fitting_6 ?_
  refine g_ifnonnull X 20 dX12_fitting_9 (by decide) (fun _ hq => ?_) (fun hq => ?_)
  · have hf := zpos (by rw [hq]; rfl) hf
    refine g_aload_n X 0 dX12_fitting_20 rfl ?_
    refine g_aload_n X 0 dX12_fitting_21 rfl ?_
    obtain ⟨v4, h3, hch3, hf⟩ := zc2_e hf
    refine g_callV X 0 (sX12_fittingMany hch3) zf12 hk1 ydX12_fittingMany w_ml_RX12_394 w_instanceMethod_X12_fittingMany w_sel_X12_fittingMany w_ini_RX12 w_code_X12_fittingMany (by decide) rfl (st := [.ref (base + r0)]) rfl rfl (Nat.le_of_ble_eq_true rfl) dX12_fitting_22 ?_
    obtain ⟨v6, h5, hch5, hf⟩ := zc2_e hf
    refine g_callV X 1 (sX12_good hch5) zf12 hk1 ydX12_good w_ml_RX12_96 w_instanceMethod_X12_good w_sel_X12_good w_ini_RX12 w_code_X12_good (by decide) rfl (st := []) rfl rfl (Nat.le_of_ble_eq_true rfl) dX12_fitting_25 ?_
    obtain ⟨rfl, rfl⟩ := zsm hf
    exact g_iret X hr dX12_fitting_28
  · have hf := zneg (by rw [hq]; decide) hf
    refine g_aload_n X 0 dX12_fitting_12 rfl ?_
    refine g_iconst X (v := 1) dX12_fitting_13 (by decide) ?_
    obtain ⟨v8, h7, hch7, hf⟩ := zc2_e hf
    refine g_callV X 1 (sX12_refused hch7) zf12 hk1 ydX12_refused w_ml_RX12_92 w_instanceMethod_X12_refused w_sel_X12_refused w_ini_RX12 w_code_X12_refused (by decide) rfl (st := []) rfl rfl (Nat.le_of_ble_eq_true rfl) dX12_fitting_14 ?_
    refine g_goto X 28 dX12_fitting_17 (by decide) ?_
    obtain ⟨rfl, rfl⟩ := zsm hf
    exact g_iret X hr dX12_fitting_28

