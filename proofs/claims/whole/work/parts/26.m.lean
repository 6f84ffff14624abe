/-! FifthCardModel becomes -/
def jX12_becomes_83 (g : Zh) (r0 : Nat) (x4 : Int32) (h : Zh) : Option (Int32 × Zh) :=
  (zR h r0 26).bind fun r_27 => zc2 (fX12_rowNumber r0 r_27 ((0 : Int32)) h) fun v29 h28 => (zR h28 r0 3).bind fun r_30 => if zK g r_30 = 11 then zc2 (fX11_tilts r_30 h28) fun v33 h32 => some ((v29 * v33) + x4, h32) else none
def fX12_becomes (r0 : Nat) (x1 : Int32) (x2 : Int32) (h : Zh) : Option (Int32 × Zh) := zlet h fun g =>
  if zK g r0 = 12 then (zR h r0 26).bind fun r_2 => (fX12_rowCards r0 x1 r_2 h).bind fun h3 => (zR h3 r0 26).bind fun r_4 => if zK g r_4 = 100 then if zin x2 (zL g r_4) then zlet (zI h3 r_4 x2.toNatClampNeg) fun y7 => (zR h3 r0 26).bind fun r_8 => (zR h3 r0 26).bind fun r_9 => if zK g r_9 = 100 then if zin (x2 + ((1 : Int32))) (zL g r_9) then if zK g r_8 = 100 then if zin x2 (zL g r_8) then zlet (zsI h3 r_8 x2.toNatClampNeg (zI h3 r_9 (x2 + ((1 : Int32))).toNatClampNeg)) fun h14 => (zR h14 r0 26).bind fun r_15 => if zK g r_15 = 100 then if zin (x2 + ((1 : Int32))) (zL g r_15) then zlet (zsI h14 r_15 (x2 + ((1 : Int32))).toNatClampNeg y7) fun h18 => (zR h18 r0 3).bind fun r_19 => if zK g r_19 = 11 then zc2 (fX11_tilts r_19 h18) fun v22 h21 => if ¬ v22 = 0 then zlet (zrem x1 v22) fun y24 => zlet ((y24 >>> (x2 &&& 31)) &&& ((1 : Int32))) fun y25 => zlet ((y24 >>> ((x2 + ((1 : Int32))) &&& 31)) &&& ((1 : Int32))) fun y26 => if y25 = y26 then jX12_becomes_83 g r0 y24 h21 else zlet (y24 ^^^ (((3 : Int32)) <<< (x2 &&& 31))) fun y34 => jX12_becomes_83 g r0 y34 h21 else none else none else none else none else none else none else none else none else none else none else none
/-! FifthCardModel isOwned -/
def fX12_isOwned (r0 : Nat) (x1 : Int32) (h : Zh) : Option (Int32 × Zh) := zlet h fun g =>
  if zK g r0 = 12 then (zR h r0 27).bind fun r_2 => zc2 (fX12_slot r0 x1 h) fun v4 h3 => if zK g r_2 = 100 then if zin v4 (zL g r_2) then if (zI h3 r_2 v4.toNatClampNeg) = ((-1 : Int32)) then some ((0 : Int32), h3) else some ((1 : Int32), h3) else none else none else none
/-! FifthCardModel isSeen -/
def bX12_isSeen_12 (g : Zh) (r0 : Nat) (x1 : Int32) (x2 : Int32) (h : Zh) : Option (Nat × Int32 × Zh) :=
  (zR h r0 3).bind fun r_2 => if zK g r_2 = 11 then if (zI h r_2 4) ≤ (x2 + ((1 : Int32))) then some (2, (x2, h)) else (zR h r0 25).bind fun r_4 => if zK g r_4 = 100 then if zin x1 (zL g r_4) then if (zI h r_4 x1.toNatClampNeg) = ((-2 : Int32)) then zlet (x2 + (1 : Int32)) fun y7 => some (0, (y7, h)) else (zR h r0 25).bind fun r_8 => if zK g r_8 = 100 then if zin x1 (zL g r_8) then zc2 (fX12_becomes r0 (zI h r_8 x1.toNatClampNeg) x2 h) fun v12 h11 => zc2 (fX12_isOwned r0 v12 h11) fun v14 h13 => if v14 = 0 then zlet (x2 + (1 : Int32)) fun y15 => some (0, (y15, h13)) else some (1, (x2, h13)) else none else none else none else none else none
def kX12_isSeen_12 (g : Zh) (r0 : Nat) (x1 : Int32) (e : Nat) (x2 : Int32) (h : Zh) : Option (Nat × Int32 × Zh) :=
  if e = 1 then some (1, (0, h)) else zlet (x1 + (1 : Int32)) fun y16 => some (0, (y16, h))
def bX12_isSeen_2 (g : Zh) (r0 : Nat) (x1 : Int32) (h : Zh) : Option (Nat × Int32 × Zh) :=
  if zK g r0 = 12 then if (zI h r0 17) ≤ x1 then some (2, (x1, h)) else (lp (fun q : Int32 × Zh => bX12_isSeen_12 g r0 x1 q.1 q.2) zB ((0 : Int32), h)).bind fun q => kX12_isSeen_12 g r0 x1 q.1 q.2.1 q.2.2 else none
def kX12_isSeen_2 (g : Zh)  (e : Nat) (x1 : Int32) (h : Zh) : Option (Int32 × Zh) :=
  if e = 1 then some ((0 : Int32), h) else some ((1 : Int32), h)
def fX12_isSeen (r0 : Nat) (h : Zh) : Option (Int32 × Zh) := zlet h fun g =>
  (lp (fun q : Int32 × Zh => bX12_isSeen_2 g r0 q.1 q.2) zB ((0 : Int32), h)).bind fun q => kX12_isSeen_2 g q.1 q.2.1 q.2.2
/-! FifthCardModel ownsLaid -/
def bX12_ownsLaid_6 (g : Zh) (r0 : Nat) (x1 : Int32) (h : Zh) : Option (Nat × Int32 × Zh) :=
  if (zI h r0 17) ≤ x1 then some (1, (x1, h)) else (zR h r0 25).bind fun r_3 => if zK g r_3 = 100 then if zin x1 (zL g r_3) then if (zI h r_3 x1.toNatClampNeg) = ((-2 : Int32)) then zlet (x1 + (1 : Int32)) fun y6 => some (0, (y6, h)) else (zR h r0 25).bind fun r_7 => if zK g r_7 = 100 then if zin x1 (zL g r_7) then (zR h r0 25).bind fun r_10 => if zK g r_10 = 100 then if zin x1 (zL g r_10) then (fX12_owns r0 (zI h r_7 x1.toNatClampNeg) (zI h r_10 x1.toNatClampNeg) h).bind fun h13 => zlet (x1 + (1 : Int32)) fun y14 => some (0, (y14, h13)) else none else none else none else none else none else none
def kX12_ownsLaid_6 (g : Zh)  (e : Nat) (x1 : Int32) (h : Zh) : Option Zh :=
  some h
def fX12_ownsLaid (r0 : Nat) (h : Zh) : Option Zh := zlet h fun g =>
  if zK g r0 = 12 then (fX12_clearOwners r0 h).bind fun h2 => (lp (fun q : Int32 × Zh => bX12_ownsLaid_6 g r0 q.1 q.2) zB ((0 : Int32), h2)).bind fun q => kX12_ownsLaid_6 g q.1 q.2.1 q.2.2 else none
/-! FifthCardModel seen -/
def fX12_seen (r0 : Nat) (x1 : Int32) (h : Zh) : Option (Int32 × Zh) := zlet h fun g =>
  if zK g r0 = 12 then zlet (zsI h r0 0 ((0 : Int32))) fun h2 => zc2 (fX12_isRule r0 x1 h2) fun v4 h3 => if v4 = 0 then zc2 (fX12_refused r0 ((1 : Int32)) h3) fun v14 h13 => some (v14, h13) else (fX12_laysAll r0 x1 h3).bind fun h5 => (fX12_ownsLaid r0 h5).bind fun h6 => zc2 (fX12_isSeen r0 h6) fun v8 h7 => if v8 = 0 then zc2 (fX12_good r0 ((0 : Int32)) h7) fun v10 h9 => some (v10, h9) else zc2 (fX12_good r0 ((1 : Int32)) h7) fun v12 h11 => some (v12, h11) else none
/-! FifthCardModel isBorne -/
def bX12_isBorne_12 (g : Zh) (r0 : Nat) (x1 : Int32) (x2 : Int32) (h : Zh) : Option (Nat × Int32 × Zh) :=
  (zR h r0 3).bind fun r_2 => if zK g r_2 = 11 then if (zI h r_2 4) ≤ (x2 + ((1 : Int32))) then some (2, (x2, h)) else (zR h r0 25).bind fun r_4 => if zK g r_4 = 100 then if zin x1 (zL g r_4) then if (zI h r_4 x1.toNatClampNeg) = ((-2 : Int32)) then some (2, (x2, h)) else (zR h r0 25).bind fun r_7 => if zK g r_7 = 100 then if zin x1 (zL g r_7) then zc2 (fX12_becomes r0 (zI h r_7 x1.toNatClampNeg) x2 h) fun v11 h10 => zc2 (fX12_ownerOf r0 v11 h10) fun v13 h12 => if v13 = ((-1 : Int32)) then (zR h12 r0 25).bind fun r_14 => if zK g r_14 = 100 then if zin x1 (zL g r_14) then (fX12_owns r0 v11 (zI h12 r_14 x1.toNatClampNeg) h12).bind fun h17 => zlet (x2 + (1 : Int32)) fun y18 => some (0, (y18, h17)) else none else none else (zR h12 r0 25).bind fun r_19 => if zK g r_19 = 100 then if zin x1 (zL g r_19) then if v13 = (zI h12 r_19 x1.toNatClampNeg) then (zR h12 r0 25).bind fun r_22 => if zK g r_22 = 100 then if zin x1 (zL g r_22) then (fX12_owns r0 v11 (zI h12 r_22 x1.toNatClampNeg) h12).bind fun h25 => zlet (x2 + (1 : Int32)) fun y26 => some (0, (y26, h25)) else none else none else some (1, (x2, h12)) else none else none else none else none else none else none else none
def kX12_isBorne_12 (g : Zh) (r0 : Nat) (x1 : Int32) (e : Nat) (x2 : Int32) (h : Zh) : Option (Nat × Int32 × Zh) :=
  if e = 1 then some (1, (0, h)) else zlet (x1 + (1 : Int32)) fun y27 => some (0, (y27, h))
def bX12_isBorne_2 (g : Zh) (r0 : Nat) (x1 : Int32) (h : Zh) : Option (Nat × Int32 × Zh) :=
  if zK g r0 = 12 then if (zI h r0 17) ≤ x1 then some (2, (x1, h)) else (lp (fun q : Int32 × Zh => bX12_isBorne_12 g r0 x1 q.1 q.2) zB ((0 : Int32), h)).bind fun q => kX12_isBorne_12 g r0 x1 q.1 q.2.1 q.2.2 else none
def kX12_isBorne_2 (g : Zh)  (e : Nat) (x1 : Int32) (h : Zh) : Option (Int32 × Zh) :=
  if e = 1 then some ((0 : Int32), h) else some ((1 : Int32), h)
def fX12_isBorne (r0 : Nat) (h : Zh) : Option (Int32 × Zh) := zlet h fun g =>
  (lp (fun q : Int32 × Zh => bX12_isBorne_2 g r0 q.1 q.2) zB ((0 : Int32), h)).bind fun q => kX12_isBorne_2 g q.1 q.2.1 q.2.2
/-! FifthCardModel borne -/
def fX12_borne (r0 : Nat) (x1 : Int32) (h : Zh) : Option (Int32 × Zh) := zlet h fun g =>
  if zK g r0 = 12 then zlet (zsI h r0 0 ((0 : Int32))) fun h2 => zc2 (fX12_isRule r0 x1 h2) fun v4 h3 => if v4 = 0 then zc2 (fX12_refused r0 ((1 : Int32)) h3) fun v18 h17 => some (v18, h17) else (fX12_laysAll r0 x1 h3).bind fun h5 => (fX12_ownsLaid r0 h5).bind fun h6 => zc2 (fX12_isSeen r0 h6) fun v8 h7 => if v8 = 0 then zc2 (fX12_good r0 ((0 : Int32)) h7) fun v10 h9 => some (v10, h9) else zc2 (fX12_isBorne r0 h7) fun v12 h11 => if v12 = 0 then zc2 (fX12_good r0 ((0 : Int32)) h11) fun v14 h13 => some (v14, h13) else zc2 (fX12_good r0 ((1 : Int32)) h11) fun v16 h15 => some (v16, h15) else none
/-! FifthCardModel wordsWork -/
def fX12_wordsWork (r0 : Nat) (x1 : Int32) (h : Zh) : Option (Int32 × Zh) := zlet h fun g =>
  if zK g r0 = 12 then zlet (zsI h r0 0 ((0 : Int32))) fun h2 => if (zR h2 r0 3).isSome = true then zc2 (fX12_in x1 ((0 : Int32)) ((19 : Int32)) h2) fun v4 h3 => if v4 = 0 then zc2 (fX12_refused r0 ((2 : Int32)) h3) fun v13 h12 => some (v13, h12) else (fX12_laysAllWords r0 x1 h3).bind fun h5 => zc2 (fX12_isWorking r0 h5) fun v7 h6 => if v7 = 0 then zc2 (fX12_good r0 ((0 : Int32)) h6) fun v9 h8 => some (v9, h8) else zc2 (fX12_good r0 ((1 : Int32)) h6) fun v11 h10 => some (v11, h10) else zc2 (fX12_refused r0 ((1 : Int32)) h2) fun v15 h14 => some (v15, h14) else none
/-! FifthCardModel shortest -/
def bX12_shortest_20 (g : Zh) (r0 : Nat) (x1 : Int32) (h : Zh) : Option (Nat × Int32 × Zh) :=
  if ((20 : Int32)) ≤ x1 then some (2, (x1, h)) else (fX12_laysAllWords r0 x1 h).bind fun h3 => zc2 (fX12_isWorking r0 h3) fun v5 h4 => if v5 = 0 then zlet (x1 + (1 : Int32)) fun y6 => some (0, (y6, h4)) else some (1, (x1, h4))
def kX12_shortest_20 (g : Zh) (r0 : Nat) (e : Nat) (x1 : Int32) (h : Zh) : Option (Int32 × Zh) :=
  if e = 1 then zc2 (fX12_good r0 x1 h) fun v8 h7 => some (v8, h7) else zc2 (fX12_good r0 ((-2 : Int32)) h) fun v10 h9 => some (v10, h9)
def fX12_shortest (r0 : Nat) (h : Zh) : Option (Int32 × Zh) := zlet h fun g =>
  if zK g r0 = 12 then zlet (zsI h r0 0 ((0 : Int32))) fun h2 => if (zR h2 r0 3).isSome = true then (lp (fun q : Int32 × Zh => bX12_shortest_20 g r0 q.1 q.2) zB ((0 : Int32), h2)).bind fun q => kX12_shortest_20 g r0 q.1 q.2.1 q.2.2 else zc2 (fX12_refused r0 ((1 : Int32)) h2) fun v12 h11 => some (v12, h11) else none
/-! FifthCardModel pairs -/
def fX12_pairs (r0 : Nat) (h : Zh) : Option (Int32 × Zh) := zlet h fun g =>
  if zK g r0 = 12 then zlet (zsI h r0 0 ((0 : Int32))) fun h2 => if (zR h2 r0 3).isSome = true then zc2 (fX12_pairsNow r0 h2) fun v4 h3 => zc2 (fX12_good r0 v4 h3) fun v6 h5 => some (v6, h5) else zc2 (fX12_refused r0 ((1 : Int32)) h2) fun v8 h7 => some (v8, h7) else none
/-! FifthCardModel table -/
def fX12_table (r0 : Nat) (x1 : Int32) (h : Zh) : Option (Int32 × Zh) := zlet h fun g =>
  if zK g r0 = 12 then zlet (zsI h r0 0 ((0 : Int32))) fun h2 => zc2 (fX12_isHand r0 x1 h2) fun v4 h3 => if v4 = 0 then zc2 (fX12_refused r0 ((1 : Int32)) h3) fun v16 h15 => some (v16, h15) else if (zI h3 r0 17) ≤ ((300 : Int32)) then (fX12_knowsTable r0 h3).bind fun h5 => if (zI h5 r0 36) = 0 then zc2 (fX12_good r0 ((-2 : Int32)) h5) fun v7 h6 => some (v7, h6) else (zR h5 r0 33).bind fun r_8 => if zK g r_8 = 100 then if zin x1 (zL g r_8) then zc2 (fX12_good r0 (zI h5 r_8 x1.toNatClampNeg) h5) fun v12 h11 => some (v12, h11) else none else none else zc2 (fX12_refused r0 ((3 : Int32)) h3) fun v14 h13 => some (v14, h13) else none
/-! FifthCardModel countOf -/
def fX12_countOf (r0 : Nat) (x1 : Int32) (x2 : Int32) (h : Zh) : Option (Int64 × Zh) := zlet h fun g =>
  if x2 = 0 then if zK g r0 = 12 then (zR h r0 3).bind fun r_21 => if zK g r_21 = 11 then zc2 (fX11_handsOf r_21 x1 h) fun v24 h23 => some (v24, h23) else none else none else if zK g r0 = 12 then (zR h r0 3).bind fun r_2 => if zK g r_2 = 11 then if (zI h r_2 8) = 0 then (zR h r0 3).bind fun r_4 => if zK g r_4 = 11 then zc2 (fX12_rowsOf x1 (zI h r_4 4) h) fun v7 h6 => (zR h6 r0 3).bind fun r_8 => if zK g r_8 = 11 then zc2 (fX11_tilts r_8 h6) fun v11 h10 => some (v7 * v11.toInt64, h10) else none else none else (zR h r0 3).bind fun r_12 => if zK g r_12 = 11 then zc2 (fX12_setsOf x1 (zI h r_12 4) h) fun v15 h14 => (zR h14 r0 3).bind fun r_16 => if zK g r_16 = 11 then zc2 (fX11_tilts r_16 h14) fun v19 h18 => some (v15 * v19.toInt64, h18) else none else none else none else none
theorem dX12_becomes_0 : decode cX12_becomes 0 = .ok (.aload_n 0, 1) := by decide +kernel
theorem dX12_becomes_1 : decode cX12_becomes 1 = .ok (.iload_n 1, 1) := by decide +kernel
theorem dX12_becomes_2 : decode cX12_becomes 2 = .ok (.aload_n 0, 1) := by decide +kernel
theorem dX12_becomes_3 : decode cX12_becomes 3 = .ok (.getfield 39, 3) := by decide +kernel
theorem dX12_becomes_6 : decode cX12_becomes 6 = .ok (.invokevirtual 381, 3) := by decide +kernel
theorem dX12_becomes_9 : decode cX12_becomes 9 = .ok (.aload_n 0, 1) := by decide +kernel
theorem dX12_becomes_10 : decode cX12_becomes 10 = .ok (.getfield 39, 3) := by decide +kernel
theorem dX12_becomes_13 : decode cX12_becomes 13 = .ok (.iload_n 2, 1) := by decide +kernel
theorem dX12_becomes_14 : decode cX12_becomes 14 = .ok (.iaload, 1) := by decide +kernel
theorem dX12_becomes_15 : decode cX12_becomes 15 = .ok (.istore_n 3, 1) := by decide +kernel
theorem dX12_becomes_16 : decode cX12_becomes 16 = .ok (.aload_n 0, 1) := by decide +kernel
theorem dX12_becomes_17 : decode cX12_becomes 17 = .ok (.getfield 39, 3) := by decide +kernel
theorem dX12_becomes_20 : decode cX12_becomes 20 = .ok (.iload_n 2, 1) := by decide +kernel
theorem dX12_becomes_21 : decode cX12_becomes 21 = .ok (.aload_n 0, 1) := by decide +kernel
theorem dX12_becomes_22 : decode cX12_becomes 22 = .ok (.getfield 39, 3) := by decide +kernel
theorem dX12_becomes_25 : decode cX12_becomes 25 = .ok (.iload_n 2, 1) := by decide +kernel
theorem dX12_becomes_26 : decode cX12_becomes 26 = .ok (.iconst 1, 1) := by decide +kernel
theorem dX12_becomes_27 : decode cX12_becomes 27 = .ok (.iadd, 1) := by decide +kernel
theorem dX12_becomes_28 : decode cX12_becomes 28 = .ok (.iaload, 1) := by decide +kernel
theorem dX12_becomes_29 : decode cX12_becomes 29 = .ok (.iastore, 1) := by decide +kernel
theorem dX12_becomes_30 : decode cX12_becomes 30 = .ok (.aload_n 0, 1) := by decide +kernel
theorem dX12_becomes_31 : decode cX12_becomes 31 = .ok (.getfield 39, 3) := by decide +kernel
theorem dX12_becomes_34 : decode cX12_becomes 34 = .ok (.iload_n 2, 1) := by decide +kernel
theorem dX12_becomes_35 : decode cX12_becomes 35 = .ok (.iconst 1, 1) := by decide +kernel
theorem dX12_becomes_36 : decode cX12_becomes 36 = .ok (.iadd, 1) := by decide +kernel
theorem dX12_becomes_37 : decode cX12_becomes 37 = .ok (.iload_n 3, 1) := by decide +kernel
theorem dX12_becomes_38 : decode cX12_becomes 38 = .ok (.iastore, 1) := by decide +kernel
theorem dX12_becomes_39 : decode cX12_becomes 39 = .ok (.iload_n 1, 1) := by decide +kernel
theorem dX12_becomes_40 : decode cX12_becomes 40 = .ok (.aload_n 0, 1) := by decide +kernel
theorem dX12_becomes_41 : decode cX12_becomes 41 = .ok (.getfield 329, 3) := by decide +kernel
theorem dX12_becomes_44 : decode cX12_becomes 44 = .ok (.invokevirtual 354, 3) := by decide +kernel
theorem dX12_becomes_47 : decode cX12_becomes 47 = .ok (.irem, 1) := by decide +kernel
theorem dX12_becomes_48 : decode cX12_becomes 48 = .ok (.istore 4, 2) := by decide +kernel
theorem dX12_becomes_50 : decode cX12_becomes 50 = .ok (.iload 4, 2) := by decide +kernel
theorem dX12_becomes_52 : decode cX12_becomes 52 = .ok (.iload_n 2, 1) := by decide +kernel
theorem dX12_becomes_53 : decode cX12_becomes 53 = .ok (.ishr, 1) := by decide +kernel
theorem dX12_becomes_54 : decode cX12_becomes 54 = .ok (.iconst 1, 1) := by decide +kernel
theorem dX12_becomes_55 : decode cX12_becomes 55 = .ok (.iand, 1) := by decide +kernel
theorem dX12_becomes_56 : decode cX12_becomes 56 = .ok (.istore 5, 2) := by decide +kernel
theorem dX12_becomes_58 : decode cX12_becomes 58 = .ok (.iload 4, 2) := by decide +kernel
theorem dX12_becomes_60 : decode cX12_becomes 60 = .ok (.iload_n 2, 1) := by decide +kernel
theorem dX12_becomes_61 : decode cX12_becomes 61 = .ok (.iconst 1, 1) := by decide +kernel
theorem dX12_becomes_62 : decode cX12_becomes 62 = .ok (.iadd, 1) := by decide +kernel
theorem dX12_becomes_63 : decode cX12_becomes 63 = .ok (.ishr, 1) := by decide +kernel
theorem dX12_becomes_64 : decode cX12_becomes 64 = .ok (.iconst 1, 1) := by decide +kernel
theorem dX12_becomes_65 : decode cX12_becomes 65 = .ok (.iand, 1) := by decide +kernel
theorem dX12_becomes_66 : decode cX12_becomes 66 = .ok (.istore 6, 2) := by decide +kernel
theorem dX12_becomes_68 : decode cX12_becomes 68 = .ok (.iload 5, 2) := by decide +kernel
theorem dX12_becomes_70 : decode cX12_becomes 70 = .ok (.iload 6, 2) := by decide +kernel
theorem dX12_becomes_72 : decode cX12_becomes 72 = .ok (.if_icmp .eq 11, 3) := by decide +kernel
theorem dX12_becomes_75 : decode cX12_becomes 75 = .ok (.iload 4, 2) := by decide +kernel
theorem dX12_becomes_77 : decode cX12_becomes 77 = .ok (.iconst 3, 1) := by decide +kernel
theorem dX12_becomes_78 : decode cX12_becomes 78 = .ok (.iload_n 2, 1) := by decide +kernel
theorem dX12_becomes_79 : decode cX12_becomes 79 = .ok (.ishl, 1) := by decide +kernel
theorem dX12_becomes_80 : decode cX12_becomes 80 = .ok (.ixor, 1) := by decide +kernel
theorem dX12_becomes_81 : decode cX12_becomes 81 = .ok (.istore 4, 2) := by decide +kernel
theorem dX12_becomes_83 : decode cX12_becomes 83 = .ok (.aload_n 0, 1) := by decide +kernel
theorem dX12_becomes_84 : decode cX12_becomes 84 = .ok (.aload_n 0, 1) := by decide +kernel
theorem dX12_becomes_85 : decode cX12_becomes 85 = .ok (.getfield 39, 3) := by decide +kernel
theorem dX12_becomes_88 : decode cX12_becomes 88 = .ok (.iconst 0, 1) := by decide +kernel
theorem dX12_becomes_89 : decode cX12_becomes 89 = .ok (.invokevirtual 351, 3) := by decide +kernel
theorem dX12_becomes_92 : decode cX12_becomes 92 = .ok (.aload_n 0, 1) := by decide +kernel
theorem dX12_becomes_93 : decode cX12_becomes 93 = .ok (.getfield 329, 3) := by decide +kernel
theorem dX12_becomes_96 : decode cX12_becomes 96 = .ok (.invokevirtual 354, 3) := by decide +kernel
theorem dX12_becomes_99 : decode cX12_becomes 99 = .ok (.imul, 1) := by decide +kernel
theorem dX12_becomes_100 : decode cX12_becomes 100 = .ok (.iload 4, 2) := by decide +kernel
theorem dX12_becomes_102 : decode cX12_becomes 102 = .ok (.iadd, 1) := by decide +kernel
theorem dX12_becomes_103 : decode cX12_becomes 103 = .ok (.ireturn, 1) := by decide +kernel
theorem dX12_isOwned_0 : decode cX12_isOwned 0 = .ok (.aload_n 0, 1) := by decide +kernel
theorem dX12_isOwned_1 : decode cX12_isOwned 1 = .ok (.getfield 43, 3) := by decide +kernel
theorem dX12_isOwned_4 : decode cX12_isOwned 4 = .ok (.aload_n 0, 1) := by decide +kernel
theorem dX12_isOwned_5 : decode cX12_isOwned 5 = .ok (.iload_n 1, 1) := by decide +kernel
theorem dX12_isOwned_6 : decode cX12_isOwned 6 = .ok (.invokevirtual 455, 3) := by decide +kernel
theorem dX12_isOwned_9 : decode cX12_isOwned 9 = .ok (.iaload, 1) := by decide +kernel
theorem dX12_isOwned_10 : decode cX12_isOwned 10 = .ok (.iconst (-1), 1) := by decide +kernel
theorem dX12_isOwned_11 : decode cX12_isOwned 11 = .ok (.if_icmp .eq 7, 3) := by decide +kernel
theorem dX12_isOwned_14 : decode cX12_isOwned 14 = .ok (.iconst 1, 1) := by decide +kernel
theorem dX12_isOwned_15 : decode cX12_isOwned 15 = .ok (.goto 4, 3) := by decide +kernel
theorem dX12_isOwned_18 : decode cX12_isOwned 18 = .ok (.iconst 0, 1) := by decide +kernel
theorem dX12_isOwned_19 : decode cX12_isOwned 19 = .ok (.ireturn, 1) := by decide +kernel
theorem dX12_isSeen_0 : decode cX12_isSeen 0 = .ok (.iconst 0, 1) := by decide +kernel
theorem dX12_isSeen_1 : decode cX12_isSeen 1 = .ok (.istore_n 1, 1) := by decide +kernel
theorem dX12_isSeen_2 : decode cX12_isSeen 2 = .ok (.iload_n 1, 1) := by decide +kernel
theorem dX12_isSeen_3 : decode cX12_isSeen 3 = .ok (.aload_n 0, 1) := by decide +kernel
theorem dX12_isSeen_4 : decode cX12_isSeen 4 = .ok (.getfield 356, 3) := by decide +kernel
theorem dX12_isSeen_7 : decode cX12_isSeen 7 = .ok (.if_icmp .ge 61, 3) := by decide +kernel
theorem dX12_isSeen_10 : decode cX12_isSeen 10 = .ok (.iconst 0, 1) := by decide +kernel
theorem dX12_isSeen_11 : decode cX12_isSeen 11 = .ok (.istore_n 2, 1) := by decide +kernel
theorem dX12_isSeen_12 : decode cX12_isSeen 12 = .ok (.iload_n 2, 1) := by decide +kernel
theorem dX12_isSeen_13 : decode cX12_isSeen 13 = .ok (.iconst 1, 1) := by decide +kernel
theorem dX12_isSeen_14 : decode cX12_isSeen 14 = .ok (.iadd, 1) := by decide +kernel
theorem dX12_isSeen_15 : decode cX12_isSeen 15 = .ok (.aload_n 0, 1) := by decide +kernel
theorem dX12_isSeen_16 : decode cX12_isSeen 16 = .ok (.getfield 329, 3) := by decide +kernel
theorem dX12_isSeen_19 : decode cX12_isSeen 19 = .ok (.getfield 257, 3) := by decide +kernel
theorem dX12_isSeen_22 : decode cX12_isSeen 22 = .ok (.if_icmp .ge 40, 3) := by decide +kernel
theorem dX12_isSeen_25 : decode cX12_isSeen 25 = .ok (.aload_n 0, 1) := by decide +kernel
theorem dX12_isSeen_26 : decode cX12_isSeen 26 = .ok (.getfield 36, 3) := by decide +kernel
theorem dX12_isSeen_29 : decode cX12_isSeen 29 = .ok (.iload_n 1, 1) := by decide +kernel
theorem dX12_isSeen_30 : decode cX12_isSeen 30 = .ok (.iaload, 1) := by decide +kernel
theorem dX12_isSeen_31 : decode cX12_isSeen 31 = .ok (.bipush (-2), 2) := by decide +kernel
theorem dX12_isSeen_33 : decode cX12_isSeen 33 = .ok (.if_icmp .eq 23, 3) := by decide +kernel
theorem dX12_isSeen_36 : decode cX12_isSeen 36 = .ok (.aload_n 0, 1) := by decide +kernel
theorem dX12_isSeen_37 : decode cX12_isSeen 37 = .ok (.aload_n 0, 1) := by decide +kernel
theorem dX12_isSeen_38 : decode cX12_isSeen 38 = .ok (.aload_n 0, 1) := by decide +kernel
theorem dX12_isSeen_39 : decode cX12_isSeen 39 = .ok (.getfield 36, 3) := by decide +kernel
theorem dX12_isSeen_42 : decode cX12_isSeen 42 = .ok (.iload_n 1, 1) := by decide +kernel
theorem dX12_isSeen_43 : decode cX12_isSeen 43 = .ok (.iaload, 1) := by decide +kernel
theorem dX12_isSeen_44 : decode cX12_isSeen 44 = .ok (.iload_n 2, 1) := by decide +kernel
theorem dX12_isSeen_45 : decode cX12_isSeen 45 = .ok (.invokevirtual 448, 3) := by decide +kernel
theorem dX12_isSeen_48 : decode cX12_isSeen 48 = .ok (.invokevirtual 451, 3) := by decide +kernel
theorem dX12_isSeen_51 : decode cX12_isSeen 51 = .ok (.ifCond .eq 5, 3) := by decide +kernel
theorem dX12_isSeen_54 : decode cX12_isSeen 54 = .ok (.iconst 0, 1) := by decide +kernel
theorem dX12_isSeen_55 : decode cX12_isSeen 55 = .ok (.ireturn, 1) := by decide +kernel
theorem dX12_isSeen_56 : decode cX12_isSeen 56 = .ok (.iinc 2 1, 3) := by decide +kernel
theorem dX12_isSeen_59 : decode cX12_isSeen 59 = .ok (.goto (-47), 3) := by decide +kernel
theorem dX12_isSeen_62 : decode cX12_isSeen 62 = .ok (.iinc 1 1, 3) := by decide +kernel
theorem dX12_isSeen_65 : decode cX12_isSeen 65 = .ok (.goto (-63), 3) := by decide +kernel
theorem dX12_isSeen_68 : decode cX12_isSeen 68 = .ok (.iconst 1, 1) := by decide +kernel
theorem dX12_isSeen_69 : decode cX12_isSeen 69 = .ok (.ireturn, 1) := by decide +kernel
theorem dX12_ownsLaid_0 : decode cX12_ownsLaid 0 = .ok (.aload_n 0, 1) := by decide +kernel
theorem dX12_ownsLaid_1 : decode cX12_ownsLaid 1 = .ok (.invokevirtual 458, 3) := by decide +kernel
theorem dX12_ownsLaid_4 : decode cX12_ownsLaid 4 = .ok (.iconst 0, 1) := by decide +kernel
theorem dX12_ownsLaid_5 : decode cX12_ownsLaid 5 = .ok (.istore_n 1, 1) := by decide +kernel
theorem dX12_ownsLaid_6 : decode cX12_ownsLaid 6 = .ok (.iload_n 1, 1) := by decide +kernel
theorem dX12_ownsLaid_7 : decode cX12_ownsLaid 7 = .ok (.aload_n 0, 1) := by decide +kernel
theorem dX12_ownsLaid_8 : decode cX12_ownsLaid 8 = .ok (.getfield 356, 3) := by decide +kernel
theorem dX12_ownsLaid_11 : decode cX12_ownsLaid 11 = .ok (.if_icmp .ge 36, 3) := by decide +kernel
theorem dX12_ownsLaid_14 : decode cX12_ownsLaid 14 = .ok (.aload_n 0, 1) := by decide +kernel
theorem dX12_ownsLaid_15 : decode cX12_ownsLaid 15 = .ok (.getfield 36, 3) := by decide +kernel
theorem dX12_ownsLaid_18 : decode cX12_ownsLaid 18 = .ok (.iload_n 1, 1) := by decide +kernel
theorem dX12_ownsLaid_19 : decode cX12_ownsLaid 19 = .ok (.iaload, 1) := by decide +kernel
theorem dX12_ownsLaid_20 : decode cX12_ownsLaid 20 = .ok (.bipush (-2), 2) := by decide +kernel
theorem dX12_ownsLaid_22 : decode cX12_ownsLaid 22 = .ok (.if_icmp .eq 19, 3) := by decide +kernel
theorem dX12_ownsLaid_25 : decode cX12_ownsLaid 25 = .ok (.aload_n 0, 1) := by decide +kernel
theorem dX12_ownsLaid_26 : decode cX12_ownsLaid 26 = .ok (.aload_n 0, 1) := by decide +kernel
theorem dX12_ownsLaid_27 : decode cX12_ownsLaid 27 = .ok (.getfield 36, 3) := by decide +kernel
theorem dX12_ownsLaid_30 : decode cX12_ownsLaid 30 = .ok (.iload_n 1, 1) := by decide +kernel
theorem dX12_ownsLaid_31 : decode cX12_ownsLaid 31 = .ok (.iaload, 1) := by decide +kernel
theorem dX12_ownsLaid_32 : decode cX12_ownsLaid 32 = .ok (.aload_n 0, 1) := by decide +kernel
theorem dX12_ownsLaid_33 : decode cX12_ownsLaid 33 = .ok (.getfield 36, 3) := by decide +kernel
theorem dX12_ownsLaid_36 : decode cX12_ownsLaid 36 = .ok (.iload_n 1, 1) := by decide +kernel
theorem dX12_ownsLaid_37 : decode cX12_ownsLaid 37 = .ok (.iaload, 1) := by decide +kernel
theorem dX12_ownsLaid_38 : decode cX12_ownsLaid 38 = .ok (.invokevirtual 461, 3) := by decide +kernel
theorem dX12_ownsLaid_41 : decode cX12_ownsLaid 41 = .ok (.iinc 1 1, 3) := by decide +kernel
theorem dX12_ownsLaid_44 : decode cX12_ownsLaid 44 = .ok (.goto (-38), 3) := by decide +kernel
theorem dX12_ownsLaid_47 : decode cX12_ownsLaid 47 = .ok (.return_, 1) := by decide +kernel
theorem dX12_seen_0 : decode cX12_seen 0 = .ok (.aload_n 0, 1) := by decide +kernel
theorem dX12_seen_1 : decode cX12_seen 1 = .ok (.iconst 0, 1) := by decide +kernel
theorem dX12_seen_2 : decode cX12_seen 2 = .ok (.putfield 86, 3) := by decide +kernel
theorem dX12_seen_5 : decode cX12_seen 5 = .ok (.aload_n 0, 1) := by decide +kernel
theorem dX12_seen_6 : decode cX12_seen 6 = .ok (.iload_n 1, 1) := by decide +kernel
theorem dX12_seen_7 : decode cX12_seen 7 = .ok (.invokevirtual 430, 3) := by decide +kernel
theorem dX12_seen_10 : decode cX12_seen 10 = .ok (.ifCond .ne 9, 3) := by decide +kernel
theorem dX12_seen_13 : decode cX12_seen 13 = .ok (.aload_n 0, 1) := by decide +kernel
theorem dX12_seen_14 : decode cX12_seen 14 = .ok (.iconst 1, 1) := by decide +kernel
theorem dX12_seen_15 : decode cX12_seen 15 = .ok (.invokevirtual 92, 3) := by decide +kernel
theorem dX12_seen_18 : decode cX12_seen 18 = .ok (.ireturn, 1) := by decide +kernel
theorem dX12_seen_19 : decode cX12_seen 19 = .ok (.aload_n 0, 1) := by decide +kernel
theorem dX12_seen_20 : decode cX12_seen 20 = .ok (.iload_n 1, 1) := by decide +kernel
theorem dX12_seen_21 : decode cX12_seen 21 = .ok (.invokevirtual 436, 3) := by decide +kernel
theorem dX12_seen_24 : decode cX12_seen 24 = .ok (.aload_n 0, 1) := by decide +kernel
theorem dX12_seen_25 : decode cX12_seen 25 = .ok (.invokevirtual 464, 3) := by decide +kernel
theorem dX12_seen_28 : decode cX12_seen 28 = .ok (.aload_n 0, 1) := by decide +kernel
theorem dX12_seen_29 : decode cX12_seen 29 = .ok (.aload_n 0, 1) := by decide +kernel
theorem dX12_seen_30 : decode cX12_seen 30 = .ok (.invokevirtual 467, 3) := by decide +kernel
theorem dX12_seen_33 : decode cX12_seen 33 = .ok (.ifCond .eq 7, 3) := by decide +kernel
theorem dX12_seen_36 : decode cX12_seen 36 = .ok (.iconst 1, 1) := by decide +kernel
theorem dX12_seen_37 : decode cX12_seen 37 = .ok (.goto 4, 3) := by decide +kernel
theorem dX12_seen_40 : decode cX12_seen 40 = .ok (.iconst 0, 1) := by decide +kernel
theorem dX12_seen_41 : decode cX12_seen 41 = .ok (.invokevirtual 96, 3) := by decide +kernel
theorem dX12_seen_44 : decode cX12_seen 44 = .ok (.ireturn, 1) := by decide +kernel
theorem dX12_isBorne_0 : decode cX12_isBorne 0 = .ok (.iconst 0, 1) := by decide +kernel
theorem dX12_isBorne_1 : decode cX12_isBorne 1 = .ok (.istore_n 1, 1) := by decide +kernel
theorem dX12_isBorne_2 : decode cX12_isBorne 2 = .ok (.iload_n 1, 1) := by decide +kernel
theorem dX12_isBorne_3 : decode cX12_isBorne 3 = .ok (.aload_n 0, 1) := by decide +kernel
theorem dX12_isBorne_4 : decode cX12_isBorne 4 = .ok (.getfield 356, 3) := by decide +kernel
theorem dX12_isBorne_7 : decode cX12_isBorne 7 = .ok (.if_icmp .ge 90, 3) := by decide +kernel
theorem dX12_isBorne_10 : decode cX12_isBorne 10 = .ok (.iconst 0, 1) := by decide +kernel
theorem dX12_isBorne_11 : decode cX12_isBorne 11 = .ok (.istore_n 2, 1) := by decide +kernel
theorem dX12_isBorne_12 : decode cX12_isBorne 12 = .ok (.iload_n 2, 1) := by decide +kernel
theorem dX12_isBorne_13 : decode cX12_isBorne 13 = .ok (.iconst 1, 1) := by decide +kernel
theorem dX12_isBorne_14 : decode cX12_isBorne 14 = .ok (.iadd, 1) := by decide +kernel
theorem dX12_isBorne_15 : decode cX12_isBorne 15 = .ok (.aload_n 0, 1) := by decide +kernel
theorem dX12_isBorne_16 : decode cX12_isBorne 16 = .ok (.getfield 329, 3) := by decide +kernel
theorem dX12_isBorne_19 : decode cX12_isBorne 19 = .ok (.getfield 257, 3) := by decide +kernel
theorem dX12_isBorne_22 : decode cX12_isBorne 22 = .ok (.if_icmp .ge 69, 3) := by decide +kernel
theorem dX12_isBorne_25 : decode cX12_isBorne 25 = .ok (.aload_n 0, 1) := by decide +kernel
theorem dX12_isBorne_26 : decode cX12_isBorne 26 = .ok (.getfield 36, 3) := by decide +kernel
theorem dX12_isBorne_29 : decode cX12_isBorne 29 = .ok (.iload_n 1, 1) := by decide +kernel
theorem dX12_isBorne_30 : decode cX12_isBorne 30 = .ok (.iaload, 1) := by decide +kernel
theorem dX12_isBorne_31 : decode cX12_isBorne 31 = .ok (.bipush (-2), 2) := by decide +kernel
theorem dX12_isBorne_33 : decode cX12_isBorne 33 = .ok (.if_icmp .eq 58, 3) := by decide +kernel
theorem dX12_isBorne_36 : decode cX12_isBorne 36 = .ok (.aload_n 0, 1) := by decide +kernel
theorem dX12_isBorne_37 : decode cX12_isBorne 37 = .ok (.aload_n 0, 1) := by decide +kernel
theorem dX12_isBorne_38 : decode cX12_isBorne 38 = .ok (.getfield 36, 3) := by decide +kernel
theorem dX12_isBorne_41 : decode cX12_isBorne 41 = .ok (.iload_n 1, 1) := by decide +kernel
theorem dX12_isBorne_42 : decode cX12_isBorne 42 = .ok (.iaload, 1) := by decide +kernel
theorem dX12_isBorne_43 : decode cX12_isBorne 43 = .ok (.iload_n 2, 1) := by decide +kernel
theorem dX12_isBorne_44 : decode cX12_isBorne 44 = .ok (.invokevirtual 448, 3) := by decide +kernel
theorem dX12_isBorne_47 : decode cX12_isBorne 47 = .ok (.istore_n 3, 1) := by decide +kernel
theorem dX12_isBorne_48 : decode cX12_isBorne 48 = .ok (.aload_n 0, 1) := by decide +kernel
theorem dX12_isBorne_49 : decode cX12_isBorne 49 = .ok (.iload_n 3, 1) := by decide +kernel
theorem dX12_isBorne_50 : decode cX12_isBorne 50 = .ok (.invokevirtual 470, 3) := by decide +kernel
theorem dX12_isBorne_53 : decode cX12_isBorne 53 = .ok (.istore 4, 2) := by decide +kernel
theorem dX12_isBorne_55 : decode cX12_isBorne 55 = .ok (.iload 4, 2) := by decide +kernel
theorem dX12_isBorne_57 : decode cX12_isBorne 57 = .ok (.iconst (-1), 1) := by decide +kernel
theorem dX12_isBorne_58 : decode cX12_isBorne 58 = .ok (.if_icmp .eq 16, 3) := by decide +kernel
theorem dX12_isBorne_61 : decode cX12_isBorne 61 = .ok (.iload 4, 2) := by decide +kernel
theorem dX12_isBorne_63 : decode cX12_isBorne 63 = .ok (.aload_n 0, 1) := by decide +kernel
theorem dX12_isBorne_64 : decode cX12_isBorne 64 = .ok (.getfield 36, 3) := by decide +kernel
theorem dX12_isBorne_67 : decode cX12_isBorne 67 = .ok (.iload_n 1, 1) := by decide +kernel
theorem dX12_isBorne_68 : decode cX12_isBorne 68 = .ok (.iaload, 1) := by decide +kernel
theorem dX12_isBorne_69 : decode cX12_isBorne 69 = .ok (.if_icmp .eq 5, 3) := by decide +kernel
theorem dX12_isBorne_72 : decode cX12_isBorne 72 = .ok (.iconst 0, 1) := by decide +kernel
theorem dX12_isBorne_73 : decode cX12_isBorne 73 = .ok (.ireturn, 1) := by decide +kernel
theorem dX12_isBorne_74 : decode cX12_isBorne 74 = .ok (.aload_n 0, 1) := by decide +kernel
theorem dX12_isBorne_75 : decode cX12_isBorne 75 = .ok (.iload_n 3, 1) := by decide +kernel
theorem dX12_isBorne_76 : decode cX12_isBorne 76 = .ok (.aload_n 0, 1) := by decide +kernel
theorem dX12_isBorne_77 : decode cX12_isBorne 77 = .ok (.getfield 36, 3) := by decide +kernel
theorem dX12_isBorne_80 : decode cX12_isBorne 80 = .ok (.iload_n 1, 1) := by decide +kernel
theorem dX12_isBorne_81 : decode cX12_isBorne 81 = .ok (.iaload, 1) := by decide +kernel
theorem dX12_isBorne_82 : decode cX12_isBorne 82 = .ok (.invokevirtual 461, 3) := by decide +kernel
theorem dX12_isBorne_85 : decode cX12_isBorne 85 = .ok (.iinc 2 1, 3) := by decide +kernel
theorem dX12_isBorne_88 : decode cX12_isBorne 88 = .ok (.goto (-76), 3) := by decide +kernel
theorem dX12_isBorne_91 : decode cX12_isBorne 91 = .ok (.iinc 1 1, 3) := by decide +kernel
theorem dX12_isBorne_94 : decode cX12_isBorne 94 = .ok (.goto (-92), 3) := by decide +kernel
theorem dX12_isBorne_97 : decode cX12_isBorne 97 = .ok (.iconst 1, 1) := by decide +kernel
theorem dX12_isBorne_98 : decode cX12_isBorne 98 = .ok (.ireturn, 1) := by decide +kernel
theorem dX12_borne_0 : decode cX12_borne 0 = .ok (.aload_n 0, 1) := by decide +kernel
theorem dX12_borne_1 : decode cX12_borne 1 = .ok (.iconst 0, 1) := by decide +kernel
theorem dX12_borne_2 : decode cX12_borne 2 = .ok (.putfield 86, 3) := by decide +kernel
theorem dX12_borne_5 : decode cX12_borne 5 = .ok (.aload_n 0, 1) := by decide +kernel
theorem dX12_borne_6 : decode cX12_borne 6 = .ok (.iload_n 1, 1) := by decide +kernel
theorem dX12_borne_7 : decode cX12_borne 7 = .ok (.invokevirtual 430, 3) := by decide +kernel
theorem dX12_borne_10 : decode cX12_borne 10 = .ok (.ifCond .ne 9, 3) := by decide +kernel
theorem dX12_borne_13 : decode cX12_borne 13 = .ok (.aload_n 0, 1) := by decide +kernel
theorem dX12_borne_14 : decode cX12_borne 14 = .ok (.iconst 1, 1) := by decide +kernel
theorem dX12_borne_15 : decode cX12_borne 15 = .ok (.invokevirtual 92, 3) := by decide +kernel
theorem dX12_borne_18 : decode cX12_borne 18 = .ok (.ireturn, 1) := by decide +kernel
theorem dX12_borne_19 : decode cX12_borne 19 = .ok (.aload_n 0, 1) := by decide +kernel
theorem dX12_borne_20 : decode cX12_borne 20 = .ok (.iload_n 1, 1) := by decide +kernel
theorem dX12_borne_21 : decode cX12_borne 21 = .ok (.invokevirtual 436, 3) := by decide +kernel
theorem dX12_borne_24 : decode cX12_borne 24 = .ok (.aload_n 0, 1) := by decide +kernel
theorem dX12_borne_25 : decode cX12_borne 25 = .ok (.invokevirtual 464, 3) := by decide +kernel
theorem dX12_borne_28 : decode cX12_borne 28 = .ok (.aload_n 0, 1) := by decide +kernel
theorem dX12_borne_29 : decode cX12_borne 29 = .ok (.aload_n 0, 1) := by decide +kernel
theorem dX12_borne_30 : decode cX12_borne 30 = .ok (.invokevirtual 467, 3) := by decide +kernel
theorem dX12_borne_33 : decode cX12_borne 33 = .ok (.ifCond .eq 14, 3) := by decide +kernel
theorem dX12_borne_36 : decode cX12_borne 36 = .ok (.aload_n 0, 1) := by decide +kernel
theorem dX12_borne_37 : decode cX12_borne 37 = .ok (.invokevirtual 473, 3) := by decide +kernel
theorem dX12_borne_40 : decode cX12_borne 40 = .ok (.ifCond .eq 7, 3) := by decide +kernel
theorem dX12_borne_43 : decode cX12_borne 43 = .ok (.iconst 1, 1) := by decide +kernel
theorem dX12_borne_44 : decode cX12_borne 44 = .ok (.goto 4, 3) := by decide +kernel
theorem dX12_borne_47 : decode cX12_borne 47 = .ok (.iconst 0, 1) := by decide +kernel
theorem dX12_borne_48 : decode cX12_borne 48 = .ok (.invokevirtual 96, 3) := by decide +kernel
theorem dX12_borne_51 : decode cX12_borne 51 = .ok (.ireturn, 1) := by decide +kernel
theorem dX12_wordsWork_0 : decode cX12_wordsWork 0 = .ok (.aload_n 0, 1) := by decide +kernel
theorem dX12_wordsWork_1 : decode cX12_wordsWork 1 = .ok (.iconst 0, 1) := by decide +kernel
theorem dX12_wordsWork_2 : decode cX12_wordsWork 2 = .ok (.putfield 86, 3) := by decide +kernel
theorem dX12_wordsWork_5 : decode cX12_wordsWork 5 = .ok (.aload_n 0, 1) := by decide +kernel
theorem dX12_wordsWork_6 : decode cX12_wordsWork 6 = .ok (.getfield 329, 3) := by decide +kernel
theorem dX12_wordsWork_9 : decode cX12_wordsWork 9 = .ok (.ifnonnull 9, 3) := by decide +kernel
theorem dX12_wordsWork_12 : decode cX12_wordsWork 12 = .ok (.aload_n 0, 1) := by decide +kernel
theorem dX12_wordsWork_13 : decode cX12_wordsWork 13 = .ok (.iconst 1, 1) := by decide +kernel
theorem dX12_wordsWork_14 : decode cX12_wordsWork 14 = .ok (.invokevirtual 92, 3) := by decide +kernel
theorem dX12_wordsWork_17 : decode cX12_wordsWork 17 = .ok (.ireturn, 1) := by decide +kernel
theorem dX12_wordsWork_18 : decode cX12_wordsWork 18 = .ok (.iload_n 1, 1) := by decide +kernel
theorem dX12_wordsWork_19 : decode cX12_wordsWork 19 = .ok (.iconst 0, 1) := by decide +kernel
theorem dX12_wordsWork_20 : decode cX12_wordsWork 20 = .ok (.bipush 19, 2) := by decide +kernel
theorem dX12_wordsWork_22 : decode cX12_wordsWork 22 = .ok (.invokestatic 168, 3) := by decide +kernel
theorem dX12_wordsWork_25 : decode cX12_wordsWork 25 = .ok (.ifCond .ne 9, 3) := by decide +kernel
theorem dX12_wordsWork_28 : decode cX12_wordsWork 28 = .ok (.aload_n 0, 1) := by decide +kernel
theorem dX12_wordsWork_29 : decode cX12_wordsWork 29 = .ok (.iconst 2, 1) := by decide +kernel
theorem dX12_wordsWork_30 : decode cX12_wordsWork 30 = .ok (.invokevirtual 92, 3) := by decide +kernel
theorem dX12_wordsWork_33 : decode cX12_wordsWork 33 = .ok (.ireturn, 1) := by decide +kernel
theorem dX12_wordsWork_34 : decode cX12_wordsWork 34 = .ok (.aload_n 0, 1) := by decide +kernel
theorem dX12_wordsWork_35 : decode cX12_wordsWork 35 = .ok (.iload_n 1, 1) := by decide +kernel
theorem dX12_wordsWork_36 : decode cX12_wordsWork 36 = .ok (.invokevirtual 476, 3) := by decide +kernel
theorem dX12_wordsWork_39 : decode cX12_wordsWork 39 = .ok (.aload_n 0, 1) := by decide +kernel
theorem dX12_wordsWork_40 : decode cX12_wordsWork 40 = .ok (.aload_n 0, 1) := by decide +kernel
theorem dX12_wordsWork_41 : decode cX12_wordsWork 41 = .ok (.invokevirtual 445, 3) := by decide +kernel
theorem dX12_wordsWork_44 : decode cX12_wordsWork 44 = .ok (.ifCond .eq 7, 3) := by decide +kernel
theorem dX12_wordsWork_47 : decode cX12_wordsWork 47 = .ok (.iconst 1, 1) := by decide +kernel
theorem dX12_wordsWork_48 : decode cX12_wordsWork 48 = .ok (.goto 4, 3) := by decide +kernel
theorem dX12_wordsWork_51 : decode cX12_wordsWork 51 = .ok (.iconst 0, 1) := by decide +kernel
theorem dX12_wordsWork_52 : decode cX12_wordsWork 52 = .ok (.invokevirtual 96, 3) := by decide +kernel
theorem dX12_wordsWork_55 : decode cX12_wordsWork 55 = .ok (.ireturn, 1) := by decide +kernel
theorem dX12_shortest_0 : decode cX12_shortest 0 = .ok (.aload_n 0, 1) := by decide +kernel
theorem dX12_shortest_1 : decode cX12_shortest 1 = .ok (.iconst 0, 1) := by decide +kernel
theorem dX12_shortest_2 : decode cX12_shortest 2 = .ok (.putfield 86, 3) := by decide +kernel
theorem dX12_shortest_5 : decode cX12_shortest 5 = .ok (.aload_n 0, 1) := by decide +kernel
theorem dX12_shortest_6 : decode cX12_shortest 6 = .ok (.getfield 329, 3) := by decide +kernel
theorem dX12_shortest_9 : decode cX12_shortest 9 = .ok (.ifnonnull 9, 3) := by decide +kernel
theorem dX12_shortest_12 : decode cX12_shortest 12 = .ok (.aload_n 0, 1) := by decide +kernel
theorem dX12_shortest_13 : decode cX12_shortest 13 = .ok (.iconst 1, 1) := by decide +kernel
theorem dX12_shortest_14 : decode cX12_shortest 14 = .ok (.invokevirtual 92, 3) := by decide +kernel
theorem dX12_shortest_17 : decode cX12_shortest 17 = .ok (.ireturn, 1) := by decide +kernel
theorem dX12_shortest_18 : decode cX12_shortest 18 = .ok (.iconst 0, 1) := by decide +kernel
theorem dX12_shortest_19 : decode cX12_shortest 19 = .ok (.istore_n 1, 1) := by decide +kernel
theorem dX12_shortest_20 : decode cX12_shortest 20 = .ok (.iload_n 1, 1) := by decide +kernel
theorem dX12_shortest_21 : decode cX12_shortest 21 = .ok (.bipush 20, 2) := by decide +kernel
theorem dX12_shortest_23 : decode cX12_shortest 23 = .ok (.if_icmp .ge 27, 3) := by decide +kernel
theorem dX12_shortest_26 : decode cX12_shortest 26 = .ok (.aload_n 0, 1) := by decide +kernel
theorem dX12_shortest_27 : decode cX12_shortest 27 = .ok (.iload_n 1, 1) := by decide +kernel
theorem dX12_shortest_28 : decode cX12_shortest 28 = .ok (.invokevirtual 476, 3) := by decide +kernel
theorem dX12_shortest_31 : decode cX12_shortest 31 = .ok (.aload_n 0, 1) := by decide +kernel
theorem dX12_shortest_32 : decode cX12_shortest 32 = .ok (.invokevirtual 445, 3) := by decide +kernel
theorem dX12_shortest_35 : decode cX12_shortest 35 = .ok (.ifCond .eq 9, 3) := by decide +kernel
theorem dX12_shortest_38 : decode cX12_shortest 38 = .ok (.aload_n 0, 1) := by decide +kernel
theorem dX12_shortest_39 : decode cX12_shortest 39 = .ok (.iload_n 1, 1) := by decide +kernel
theorem dX12_shortest_40 : decode cX12_shortest 40 = .ok (.invokevirtual 96, 3) := by decide +kernel
theorem dX12_shortest_43 : decode cX12_shortest 43 = .ok (.ireturn, 1) := by decide +kernel
theorem dX12_shortest_44 : decode cX12_shortest 44 = .ok (.iinc 1 1, 3) := by decide +kernel
theorem dX12_shortest_47 : decode cX12_shortest 47 = .ok (.goto (-27), 3) := by decide +kernel
theorem dX12_shortest_50 : decode cX12_shortest 50 = .ok (.aload_n 0, 1) := by decide +kernel
theorem dX12_shortest_51 : decode cX12_shortest 51 = .ok (.bipush (-2), 2) := by decide +kernel
theorem dX12_shortest_53 : decode cX12_shortest 53 = .ok (.invokevirtual 96, 3) := by decide +kernel
theorem dX12_shortest_56 : decode cX12_shortest 56 = .ok (.ireturn, 1) := by decide +kernel
theorem dX12_pairs_0 : decode cX12_pairs 0 = .ok (.aload_n 0, 1) := by decide +kernel
theorem dX12_pairs_1 : decode cX12_pairs 1 = .ok (.iconst 0, 1) := by decide +kernel
theorem dX12_pairs_2 : decode cX12_pairs 2 = .ok (.putfield 86, 3) := by decide +kernel
theorem dX12_pairs_5 : decode cX12_pairs 5 = .ok (.aload_n 0, 1) := by decide +kernel
theorem dX12_pairs_6 : decode cX12_pairs 6 = .ok (.getfield 329, 3) := by decide +kernel
theorem dX12_pairs_9 : decode cX12_pairs 9 = .ok (.ifnonnull 11, 3) := by decide +kernel
theorem dX12_pairs_12 : decode cX12_pairs 12 = .ok (.aload_n 0, 1) := by decide +kernel
theorem dX12_pairs_13 : decode cX12_pairs 13 = .ok (.iconst 1, 1) := by decide +kernel
theorem dX12_pairs_14 : decode cX12_pairs 14 = .ok (.invokevirtual 92, 3) := by decide +kernel
theorem dX12_pairs_17 : decode cX12_pairs 17 = .ok (.goto 11, 3) := by decide +kernel
theorem dX12_pairs_20 : decode cX12_pairs 20 = .ok (.aload_n 0, 1) := by decide +kernel
theorem dX12_pairs_21 : decode cX12_pairs 21 = .ok (.aload_n 0, 1) := by decide +kernel
theorem dX12_pairs_22 : decode cX12_pairs 22 = .ok (.invokevirtual 488, 3) := by decide +kernel
theorem dX12_pairs_25 : decode cX12_pairs 25 = .ok (.invokevirtual 96, 3) := by decide +kernel
theorem dX12_pairs_28 : decode cX12_pairs 28 = .ok (.ireturn, 1) := by decide +kernel
theorem dX12_table_0 : decode cX12_table 0 = .ok (.aload_n 0, 1) := by decide +kernel
theorem dX12_table_1 : decode cX12_table 1 = .ok (.iconst 0, 1) := by decide +kernel
theorem dX12_table_2 : decode cX12_table 2 = .ok (.putfield 86, 3) := by decide +kernel
theorem dX12_table_5 : decode cX12_table 5 = .ok (.aload_n 0, 1) := by decide +kernel
theorem dX12_table_6 : decode cX12_table 6 = .ok (.iload_n 1, 1) := by decide +kernel
theorem dX12_table_7 : decode cX12_table 7 = .ok (.invokevirtual 375, 3) := by decide +kernel
theorem dX12_table_10 : decode cX12_table 10 = .ok (.ifCond .ne 9, 3) := by decide +kernel
theorem dX12_table_13 : decode cX12_table 13 = .ok (.aload_n 0, 1) := by decide +kernel
theorem dX12_table_14 : decode cX12_table 14 = .ok (.iconst 1, 1) := by decide +kernel
theorem dX12_table_15 : decode cX12_table 15 = .ok (.invokevirtual 92, 3) := by decide +kernel
theorem dX12_table_18 : decode cX12_table 18 = .ok (.ireturn, 1) := by decide +kernel
theorem dX12_table_19 : decode cX12_table 19 = .ok (.aload_n 0, 1) := by decide +kernel
theorem dX12_table_20 : decode cX12_table 20 = .ok (.getfield 356, 3) := by decide +kernel
theorem dX12_table_23 : decode cX12_table 23 = .ok (.sipush 300, 3) := by decide +kernel
theorem dX12_table_26 : decode cX12_table 26 = .ok (.if_icmp .le 9, 3) := by decide +kernel
theorem dX12_table_29 : decode cX12_table 29 = .ok (.aload_n 0, 1) := by decide +kernel
theorem dX12_table_30 : decode cX12_table 30 = .ok (.iconst 3, 1) := by decide +kernel
theorem dX12_table_31 : decode cX12_table 31 = .ok (.invokevirtual 92, 3) := by decide +kernel
theorem dX12_table_34 : decode cX12_table 34 = .ok (.ireturn, 1) := by decide +kernel
theorem dX12_table_35 : decode cX12_table 35 = .ok (.aload_n 0, 1) := by decide +kernel
theorem dX12_table_36 : decode cX12_table 36 = .ok (.invokevirtual 424, 3) := by decide +kernel
theorem dX12_table_39 : decode cX12_table 39 = .ok (.aload_n 0, 1) := by decide +kernel
theorem dX12_table_40 : decode cX12_table 40 = .ok (.aload_n 0, 1) := by decide +kernel
theorem dX12_table_41 : decode cX12_table 41 = .ok (.getfield 427, 3) := by decide +kernel
theorem dX12_table_44 : decode cX12_table 44 = .ok (.ifCond .eq 12, 3) := by decide +kernel
theorem dX12_table_47 : decode cX12_table 47 = .ok (.aload_n 0, 1) := by decide +kernel
theorem dX12_table_48 : decode cX12_table 48 = .ok (.getfield 62, 3) := by decide +kernel
theorem dX12_table_51 : decode cX12_table 51 = .ok (.iload_n 1, 1) := by decide +kernel
theorem dX12_table_52 : decode cX12_table 52 = .ok (.iaload, 1) := by decide +kernel
theorem dX12_table_53 : decode cX12_table 53 = .ok (.goto 5, 3) := by decide +kernel
theorem dX12_table_56 : decode cX12_table 56 = .ok (.bipush (-2), 2) := by decide +kernel
theorem dX12_table_58 : decode cX12_table 58 = .ok (.invokevirtual 96, 3) := by decide +kernel
theorem dX12_table_61 : decode cX12_table 61 = .ok (.ireturn, 1) := by decide +kernel
theorem dX12_countOf_0 : decode cX12_countOf 0 = .ok (.iload_n 2, 1) := by decide +kernel
theorem dX12_countOf_1 : decode cX12_countOf 1 = .ok (.ifCond .ne 12, 3) := by decide +kernel
theorem dX12_countOf_4 : decode cX12_countOf 4 = .ok (.aload_n 0, 1) := by decide +kernel
theorem dX12_countOf_5 : decode cX12_countOf 5 = .ok (.getfield 329, 3) := by decide +kernel
theorem dX12_countOf_8 : decode cX12_countOf 8 = .ok (.iload_n 1, 1) := by decide +kernel
theorem dX12_countOf_9 : decode cX12_countOf 9 = .ok (.invokevirtual 234, 3) := by decide +kernel
theorem dX12_countOf_12 : decode cX12_countOf 12 = .ok (.lreturn, 1) := by decide +kernel
theorem dX12_countOf_13 : decode cX12_countOf 13 = .ok (.aload_n 0, 1) := by decide +kernel
theorem dX12_countOf_14 : decode cX12_countOf 14 = .ok (.getfield 329, 3) := by decide +kernel
theorem dX12_countOf_17 : decode cX12_countOf 17 = .ok (.getfield 245, 3) := by decide +kernel
theorem dX12_countOf_20 : decode cX12_countOf 20 = .ok (.ifCond .eq 17, 3) := by decide +kernel
theorem dX12_countOf_23 : decode cX12_countOf 23 = .ok (.iload_n 1, 1) := by decide +kernel
theorem dX12_countOf_24 : decode cX12_countOf 24 = .ok (.aload_n 0, 1) := by decide +kernel
theorem dX12_countOf_25 : decode cX12_countOf 25 = .ok (.getfield 329, 3) := by decide +kernel
theorem dX12_countOf_28 : decode cX12_countOf 28 = .ok (.getfield 257, 3) := by decide +kernel
theorem dX12_countOf_31 : decode cX12_countOf 31 = .ok (.invokestatic 391, 3) := by decide +kernel
theorem dX12_countOf_34 : decode cX12_countOf 34 = .ok (.goto 14, 3) := by decide +kernel
theorem dX12_countOf_37 : decode cX12_countOf 37 = .ok (.iload_n 1, 1) := by decide +kernel
theorem dX12_countOf_38 : decode cX12_countOf 38 = .ok (.aload_n 0, 1) := by decide +kernel
theorem dX12_countOf_39 : decode cX12_countOf 39 = .ok (.getfield 329, 3) := by decide +kernel
theorem dX12_countOf_42 : decode cX12_countOf 42 = .ok (.getfield 257, 3) := by decide +kernel
theorem dX12_countOf_45 : decode cX12_countOf 45 = .ok (.invokestatic 99, 3) := by decide +kernel
theorem dX12_countOf_48 : decode cX12_countOf 48 = .ok (.aload_n 0, 1) := by decide +kernel
theorem dX12_countOf_49 : decode cX12_countOf 49 = .ok (.getfield 329, 3) := by decide +kernel
theorem dX12_countOf_52 : decode cX12_countOf 52 = .ok (.invokevirtual 354, 3) := by decide +kernel
theorem dX12_countOf_55 : decode cX12_countOf 55 = .ok (.i2l, 1) := by decide +kernel
theorem dX12_countOf_56 : decode cX12_countOf 56 = .ok (.lmul, 1) := by decide +kernel
theorem dX12_countOf_57 : decode cX12_countOf 57 = .ok (.lreturn, 1) := by decide +kernel
set_option maxHeartbeats 4000000 in
set_option maxRecDepth 100000 in
theorem sX12_becomes {l : Launch} {D : va_G} {cA : Nat → ClassId} {base : Nat} {sA : Nat → Nat} {r0 : Nat} {x1 : Int32} {x2 : Int32} {h hE : Zh} {rE : Int32} (hf : fX12_becomes r0 x1 x2 h = some (rE, hE)) : zC l yX12_becomes cX12_becomes 7 (some .int) 2 48 D cA base sA [.ref (base + r0), .int x1, .int x2] h (some (.int rE)) hE := by
  refine g_entry RX12 (by decide) rfl (Nat.le_of_ble_eq_true rfl) ?_
  intro p e s m args below meth c X hr
  unfold fX12_becomes at hf
  have hf := zlet_n (x := h) rfl hf
  show zG p l e { frames := 2, cells := 0, slots := 0, locals := 48 } s m args below meth c (MQ below (zQ D cA base h hE (some (.int rE))) args s 0 0 (zA base)) 7 D cA base h 0 [(0, .ref (base + r0)), (1, .int x1), (2, .int x2)] [] h
  refine g_aload_n X 0 dX12_becomes_0 rfl ?_
  refine g_iload_n X 1 dX12_becomes_1 rfl ?_
  refine g_aload_n X 0 dX12_becomes_2 rfl ?_
  obtain ⟨hk1, hf⟩ := zite hf
  obtain ⟨r_2, hr_2, hf⟩ := zbd hf
  refine g_get X zf12 hk1 26 (by decide) w_f_RX12_39 rfl (zfv_r hr_2 rfl) dX12_becomes_3 ?_
  obtain ⟨h3, hch3, hf⟩ := zbd hf
  refine g_callV X 2 (sX12_rowCards hch3) zf12 hk1 ydX12_rowCards w_ml_RX12_381 w_instanceMethod_X12_rowCards w_sel_X12_rowCards w_ini_RX12 w_code_X12_rowCards (by decide) rfl (st := []) rfl rfl (Nat.le_of_ble_eq_true rfl) dX12_becomes_6 ?_
  refine g_aload_n X 0 dX12_becomes_9 rfl ?_
  obtain ⟨r_4, hr_4, hf⟩ := zbd hf
  refine g_get X zf12 hk1 26 (by decide) w_f_RX12_39 rfl (zfv_r hr_4 rfl) dX12_becomes_10 ?_
  refine g_iload_n X 2 dX12_becomes_13 rfl ?_
  obtain ⟨hk5, hf⟩ := zite hf
  obtain ⟨hi6, hf⟩ := zite hf
  refine g_iald X hk5 hi6 dX12_becomes_14 ?_
  refine g_topi (fun y7 ey7 => ?_)
  have hf := zlet_n ey7 hf
  refine g_istore_n X [(3, .int y7), (0, .ref (base + r0)), (1, .int x1), (2, .int x2)] dX12_becomes_15 (by decide) rfl ?_
  refine g_aload_n X 1 dX12_becomes_16 rfl ?_
  obtain ⟨r_8, hr_8, hf⟩ := zbd hf
  refine g_get X zf12 hk1 26 (by decide) w_f_RX12_39 rfl (zfv_r hr_8 rfl) dX12_becomes_17 ?_
  refine g_iload_n X 3 dX12_becomes_20 rfl ?_
  refine g_aload_n X 1 dX12_becomes_21 rfl ?_
  obtain ⟨r_9, hr_9, hf⟩ := zbd hf
  refine g_get X zf12 hk1 26 (by decide) w_f_RX12_39 rfl (zfv_r hr_9 rfl) dX12_becomes_22 ?_
  refine g_iload_n X 3 dX12_becomes_25 rfl ?_
  refine g_iconst X (v := 1) dX12_becomes_26 (by decide) ?_
  refine g_iadd X dX12_becomes_27 ?_
  obtain ⟨hk10, hf⟩ := zite hf
  obtain ⟨hi11, hf⟩ := zite hf
  refine g_iald X hk10 hi11 dX12_becomes_28 ?_
  obtain ⟨hk12, hf⟩ := zite hf
  obtain ⟨hi13, hf⟩ := zite hf
  refine g_iast X hk12 hi13 dX12_becomes_29 ?_
  refine g_hp (fun h14 eh14 => ?_)
  have hf := zlet_n eh14 hf
  refine g_aload_n X 1 dX12_becomes_30 rfl ?_
  obtain ⟨r_15, hr_15, hf⟩ := zbd hf
  refine g_get X zf12 hk1 26 (by decide) w_f_RX12_39 rfl (zfv_r hr_15 rfl) dX12_becomes_31 ?_
  refine g_iload_n X 3 dX12_becomes_34 rfl ?_
  refine g_iconst X (v := 1) dX12_becomes_35 (by decide) ?_
  refine g_iadd X dX12_becomes_36 ?_
  refine g_iload_n X 0 dX12_becomes_37 rfl ?_
  obtain ⟨hk16, hf⟩ := zite hf
  obtain ⟨hi17, hf⟩ := zite hf
  refine g_iast X hk16 hi17 dX12_becomes_38 ?_
  refine g_hp (fun h18 eh18 => ?_)
  have hf := zlet_n eh18 hf
  refine g_iload_n X 2 dX12_becomes_39 rfl ?_
  refine g_aload_n X 1 dX12_becomes_40 rfl ?_
  obtain ⟨r_19, hr_19, hf⟩ := zbd hf
  refine g_get X zf12 hk1 3 (by decide) w_f_RX12_329 rfl (zfv_r hr_19 rfl) dX12_becomes_41 ?_
  obtain ⟨hk20, hf⟩ := zite hf
  obtain ⟨v22, h21, hch21, hf⟩ := zc2_e hf
  refine g_callV X 0 (sX11_tilts hch21) zf11 hk20 ydX11_tilts w_ml_RX12_354 w_instanceMethod_X11_tilts w_sel_X11_tilts w_ini_RX11 w_code_X11_tilts (by decide) rfl (st := [.int x1]) rfl rfl (Nat.le_of_ble_eq_true rfl) dX12_becomes_44 ?_
  obtain ⟨hn23, hf⟩ := zite hf
  refine g_irem X hn23 dX12_becomes_47 ?_
  refine g_topi (fun y24 ey24 => ?_)
  have hf := zlet_n ey24 hf
  refine g_istore X [(4, .int y24), (3, .int y7), (0, .ref (base + r0)), (1, .int x1), (2, .int x2)] dX12_becomes_48 (by decide) rfl ?_
  refine g_iload X 0 dX12_becomes_50 rfl ?_
  refine g_iload_n X 4 dX12_becomes_52 rfl ?_
  refine g_ishr X dX12_becomes_53 ?_
  refine g_iconst X (v := 1) dX12_becomes_54 (by decide) ?_
  refine g_iand X dX12_becomes_55 ?_
  refine g_topi (fun y25 ey25 => ?_)
  have hf := zlet_n ey25 hf
  refine g_istore X [(5, .int y25), (4, .int y24), (3, .int y7), (0, .ref (base + r0)), (1, .int x1), (2, .int x2)] dX12_becomes_56 (by decide) rfl ?_
  refine g_iload X 1 dX12_becomes_58 rfl ?_
  refine g_iload_n X 5 dX12_becomes_60 rfl ?_
  refine g_iconst X (v := 1) dX12_becomes_61 (by decide) ?_
  refine g_iadd X dX12_becomes_62 ?_
  refine g_ishr X dX12_becomes_63 ?_
  refine g_iconst X (v := 1) dX12_becomes_64 (by decide) ?_
  refine g_iand X dX12_becomes_65 ?_
  refine g_topi (fun y26 ey26 => ?_)
  have hf := zlet_n ey26 hf
  refine g_istore X [(6, .int y26), (5, .int y25), (4, .int y24), (3, .int y7), (0, .ref (base + r0)), (1, .int x1), (2, .int x2)] dX12_becomes_66 (by decide) rfl ?_
  refine g_iload X 1 dX12_becomes_68 rfl ?_
  refine g_iload X 0 dX12_becomes_70 rfl ?_
  have hJ83 : ∀ (x4_83 : Int32) (h_83 : Zh), jX12_becomes_83 h r0 x4_83 h_83 = some (rE, hE) → zG p l e { frames := 2, cells := 0, slots := 0, locals := 48 } s m args below meth c (MQ below (zQ D cA base h hE (some (.int rE))) args s 0 0 (zA base)) 7 D cA base h 83 [(0, .ref (base + r0)), (4, .int x4_83)] [] h_83 := by
    intro x4_83 h_83 hf
    unfold jX12_becomes_83 at hf
    refine g_aload_n X 0 dX12_becomes_83 rfl ?_
    refine g_aload_n X 0 dX12_becomes_84 rfl ?_
    obtain ⟨r_27, hr_27, hf⟩ := zbd hf
    refine g_get X zf12 hk1 26 (by decide) w_f_RX12_39 rfl (zfv_r hr_27 rfl) dX12_becomes_85 ?_
    refine g_iconst X (v := 0) dX12_becomes_88 (by decide) ?_
    obtain ⟨v29, h28, hch28, hf⟩ := zc2_e hf
    refine g_callV X 2 (sX12_rowNumber hch28) zf12 hk1 ydX12_rowNumber w_ml_RX12_351 w_instanceMethod_X12_rowNumber w_sel_X12_rowNumber w_ini_RX12 w_code_X12_rowNumber (by decide) rfl (st := []) rfl rfl (Nat.le_of_ble_eq_true rfl) dX12_becomes_89 ?_
    refine g_aload_n X 0 dX12_becomes_92 rfl ?_
    obtain ⟨r_30, hr_30, hf⟩ := zbd hf
    refine g_get X zf12 hk1 3 (by decide) w_f_RX12_329 rfl (zfv_r hr_30 rfl) dX12_becomes_93 ?_
    obtain ⟨hk31, hf⟩ := zite hf
    obtain ⟨v33, h32, hch32, hf⟩ := zc2_e hf
    refine g_callV X 0 (sX11_tilts hch32) zf11 hk31 ydX11_tilts w_ml_RX12_354 w_instanceMethod_X11_tilts w_sel_X11_tilts w_ini_RX11 w_code_X11_tilts (by decide) rfl (st := [.int v29]) rfl rfl (Nat.le_of_ble_eq_true rfl) dX12_becomes_96 ?_
    refine g_imul X dX12_becomes_99 ?_
    refine g_iload X 1 dX12_becomes_100 rfl ?_
    refine g_iadd X dX12_becomes_102 ?_
    obtain ⟨rfl, rfl⟩ := zsm hf
    exact g_iret X hr dX12_becomes_103
  refine g_icmp_eq X 83 dX12_becomes_72 (by decide) (fun hq => ?_) (fun hq => ?_)
  · have hf := zpos hq hf
    refine g_sub [4, 2] rfl ?_
    exact hJ83 _ _ hf
  · have hf := zneg hq hf
    refine g_iload X 2 dX12_becomes_75 rfl ?_
    refine g_iconst X (v := 3) dX12_becomes_77 (by decide) ?_
    refine g_iload_n X 6 dX12_becomes_78 rfl ?_
    refine g_ishl X dX12_becomes_79 ?_
    refine g_ixor X dX12_becomes_80 ?_
    refine g_topi (fun y34 ey34 => ?_)
    have hf := zlet_n ey34 hf
    refine g_istore X [(4, .int y34), (6, .int y26), (5, .int y25), (3, .int y7), (0, .ref (base + r0)), (1, .int x1), (2, .int x2)] dX12_becomes_81 (by decide) rfl ?_
    refine g_sub [4, 0] rfl ?_
    exact hJ83 _ _ hf

set_option maxHeartbeats 4000000 in
set_option maxRecDepth 100000 in
theorem sX12_isOwned {l : Launch} {D : va_G} {cA : Nat → ClassId} {base : Nat} {sA : Nat → Nat} {r0 : Nat} {x1 : Int32} {h hE : Zh} {rE : Int32} (hf : fX12_isOwned r0 x1 h = some (rE, hE)) : zC l yX12_isOwned cX12_isOwned 2 (some .boolean) 1 22 D cA base sA [.ref (base + r0), .int x1] h (some (.int rE)) hE := by
  refine g_entry RX12 (by decide) rfl (Nat.le_of_ble_eq_true rfl) ?_
  intro p e s m args below meth c X hr
  unfold fX12_isOwned at hf
  have hf := zlet_n (x := h) rfl hf
  show zG p l e { frames := 1, cells := 0, slots := 0, locals := 22 } s m args below meth c (MQ below (zQ D cA base h hE (some (.int rE))) args s 0 0 (zA base)) 2 D cA base h 0 [(0, .ref (base + r0)), (1, .int x1)] [] h
  refine g_aload_n X 0 dX12_isOwned_0 rfl ?_
  obtain ⟨hk1, hf⟩ := zite hf
  obtain ⟨r_2, hr_2, hf⟩ := zbd hf
  refine g_get X zf12 hk1 27 (by decide) w_f_RX12_43 rfl (zfv_r hr_2 rfl) dX12_isOwned_1 ?_
  refine g_aload_n X 0 dX12_isOwned_4 rfl ?_
  refine g_iload_n X 1 dX12_isOwned_5 rfl ?_
  obtain ⟨v4, h3, hch3, hf⟩ := zc2_e hf
  refine g_callV X 1 (sX12_slot hch3) zf12 hk1 ydX12_slot w_ml_RX12_455 w_instanceMethod_X12_slot w_sel_X12_slot w_ini_RX12 w_code_X12_slot (by decide) rfl (st := [.ref (base + r_2)]) rfl rfl (Nat.le_of_ble_eq_true rfl) dX12_isOwned_6 ?_
  obtain ⟨hk5, hf⟩ := zite hf
  obtain ⟨hi6, hf⟩ := zite hf
  refine g_iald X hk5 hi6 dX12_isOwned_9 ?_
  refine g_iconst X (v := -1) dX12_isOwned_10 (by decide) ?_
  refine g_icmp_eq X 18 dX12_isOwned_11 (by decide) (fun hq => ?_) (fun hq => ?_)
  · have hf := zpos hq hf
    refine g_iconst X (v := 0) dX12_isOwned_18 (by decide) ?_
    obtain ⟨rfl, rfl⟩ := zsm hf
    exact g_zret X (Or.inl rfl) hr dX12_isOwned_19
  · have hf := zneg hq hf
    refine g_iconst X (v := 1) dX12_isOwned_14 (by decide) ?_
    refine g_goto X 19 dX12_isOwned_15 (by decide) ?_
    obtain ⟨rfl, rfl⟩ := zsm hf
    exact g_zret X (Or.inr rfl) hr dX12_isOwned_19

set_option maxHeartbeats 4000000 in
set_option maxRecDepth 100000 in
theorem sX12_isSeen {l : Launch} {D : va_G} {cA : Nat → ClassId} {base : Nat} {sA : Nat → Nat} {r0 : Nat} {h hE : Zh} {rE : Int32} (hf : fX12_isSeen r0 h = some (rE, hE)) : zC l yX12_isSeen cX12_isSeen 3 (some .boolean) 3 74 D cA base sA [.ref (base + r0)] h (some (.int rE)) hE := by
  refine g_entry RX12 (by decide) rfl (Nat.le_of_ble_eq_true rfl) ?_
  intro p e s m args below meth c X hr
  unfold fX12_isSeen at hf
  have hf := zlet_n (x := h) rfl hf
  show zG p l e { frames := 3, cells := 0, slots := 0, locals := 74 } s m args below meth c (MQ below (zQ D cA base h hE (some (.int rE))) args s 0 0 (zA base)) 3 D cA base h 0 [(0, .ref (base + r0))] [] h
  refine g_iconst X (v := 0) dX12_isSeen_0 (by decide) ?_
  refine g_istore_n X [(1, .int ((0 : Int32))), (0, .ref (base + r0))] dX12_isSeen_1 (by decide) rfl ?_
  refine g_sub [1, 0] rfl ?_
  obtain ⟨qq, hlp, hf⟩ := zbd hf
  refine lp_snd (body := (fun q : Int32 × Zh => bX12_isSeen_2 h r0 q.1 q.2)) (P := (fun q : Int32 × Zh => zG p l e { frames := 3, cells := 0, slots := 0, locals := 74 } s m args below meth c (MQ below (zQ D cA base h hE (some (.int rE))) args s 0 0 (zA base)) 3 D cA base h 2 [(0, .ref (base + r0)), (1, .int q.1)] [] q.2)) (E := (fun (en : Nat) (q : Int32 × Zh) => if en = 1 then zG p l e { frames := 3, cells := 0, slots := 0, locals := 74 } s m args below meth c (MQ below (zQ D cA base h hE (some (.int rE))) args s 0 0 (zA base)) 3 D cA base h 54 [] [] q.2 else zG p l e { frames := 3, cells := 0, slots := 0, locals := 74 } s m args below meth c (MQ below (zQ D cA base h hE (some (.int rE))) args s 0 0 (zA base)) 3 D cA base h 68 [] [] q.2)) ?_ zB ((0 : Int32), h) qq.1 qq.2 hlp ?_
  · intro q e_2 q_2 hf hc0 hc1
    obtain ⟨x1_2, h_2⟩ := q
    have hf : bX12_isSeen_2 h r0 x1_2 h_2 = some (e_2, q_2) := hf
    unfold bX12_isSeen_2 at hf
    show zG p l e { frames := 3, cells := 0, slots := 0, locals := 74 } s m args below meth c (MQ below (zQ D cA base h hE (some (.int rE))) args s 0 0 (zA base)) 3 D cA base h 2 [(0, .ref (base + r0)), (1, .int x1_2)] [] h_2
    refine g_iload_n X 1 dX12_isSeen_2 rfl ?_
    refine g_aload_n X 0 dX12_isSeen_3 rfl ?_
    obtain ⟨hk1, hf⟩ := zite hf
    refine g_get X zf12 hk1 17 (by decide) w_f_RX12_356 rfl rfl dX12_isSeen_4 ?_
    refine g_icmp_ge X 68 dX12_isSeen_7 (by decide) (fun hq => ?_) (fun hq => ?_)
    · have hf := zpos hq hf
      cases hf
      have hc1 := hc1 (by decide)
      exact g_sub [] rfl (zun_n (by decide) hc1)
    · have hf := zneg hq hf
      refine g_iconst X (v := 0) dX12_isSeen_10 (by decide) ?_
      refine g_istore_n X [(2, .int ((0 : Int32))), (0, .ref (base + r0)), (1, .int x1_2)] dX12_isSeen_11 (by decide) rfl ?_
      refine g_sub [1, 2, 0] rfl ?_
      obtain ⟨qq, hlp, hf⟩ := zbd hf
      refine lp_snd (body := (fun q : Int32 × Zh => bX12_isSeen_12 h r0 x1_2 q.1 q.2)) (P := (fun q : Int32 × Zh => zG p l e { frames := 3, cells := 0, slots := 0, locals := 74 } s m args below meth c (MQ below (zQ D cA base h hE (some (.int rE))) args s 0 0 (zA base)) 3 D cA base h 12 [(0, .ref (base + r0)), (1, .int x1_2), (2, .int q.1)] [] q.2)) (E := (fun (en : Nat) (q : Int32 × Zh) => if en = 1 then zG p l e { frames := 3, cells := 0, slots := 0, locals := 74 } s m args below meth c (MQ below (zQ D cA base h hE (some (.int rE))) args s 0 0 (zA base)) 3 D cA base h 54 [] [] q.2 else zG p l e { frames := 3, cells := 0, slots := 0, locals := 74 } s m args below meth c (MQ below (zQ D cA base h hE (some (.int rE))) args s 0 0 (zA base)) 3 D cA base h 62 [(0, .ref (base + r0)), (1, .int x1_2)] [] q.2)) ?_ zB ((0 : Int32), h_2) qq.1 qq.2 hlp ?_
      · intro q e_12 q_12 hf hc0 hc1
        obtain ⟨x2_12, h_12⟩ := q
        have hf : bX12_isSeen_12 h r0 x1_2 x2_12 h_12 = some (e_12, q_12) := hf
        unfold bX12_isSeen_12 at hf
        show zG p l e { frames := 3, cells := 0, slots := 0, locals := 74 } s m args below meth c (MQ below (zQ D cA base h hE (some (.int rE))) args s 0 0 (zA base)) 3 D cA base h 12 [(0, .ref (base + r0)), (1, .int x1_2), (2, .int x2_12)] [] h_12
        refine g_iload_n X 2 dX12_isSeen_12 rfl ?_
        refine g_iconst X (v := 1) dX12_isSeen_13 (by decide) ?_
        refine g_iadd X dX12_isSeen_14 ?_
        refine g_aload_n X 0 dX12_isSeen_15 rfl ?_
        obtain ⟨r_2, hr_2, hf⟩ := zbd hf
        refine g_get X zf12 hk1 3 (by decide) w_f_RX12_329 rfl (zfv_r hr_2 rfl) dX12_isSeen_16 ?_
        obtain ⟨hk3, hf⟩ := zite hf
        refine g_getN X zf11 hk3 4 (by decide) w_fn_RX12_257 rfl rfl dX12_isSeen_19 ?_
        refine g_icmp_ge X 62 dX12_isSeen_22 (by decide) (fun hq => ?_) (fun hq => ?_)
        · have hf := zpos hq hf
          cases hf
          have hc1 := hc1 (by decide)
          exact g_sub [0, 1] rfl (zun_n (by decide) hc1)
        · have hf := zneg hq hf
          refine g_aload_n X 0 dX12_isSeen_25 rfl ?_
          obtain ⟨r_4, hr_4, hf⟩ := zbd hf
          refine g_get X zf12 hk1 25 (by decide) w_f_RX12_36 rfl (zfv_r hr_4 rfl) dX12_isSeen_26 ?_
          refine g_iload_n X 1 dX12_isSeen_29 rfl ?_
          obtain ⟨hk5, hf⟩ := zite hf
          obtain ⟨hi6, hf⟩ := zite hf
          refine g_iald X hk5 hi6 dX12_isSeen_30 ?_
          refine g_bipush X (v := -2) dX12_isSeen_31 (by decide) ?_
          refine g_icmp_eq X 56 dX12_isSeen_33 (by decide) (fun hq => ?_) (fun hq => ?_)
          · have hf := zpos hq hf
            obtain ⟨y7, ey7⟩ : ∃ y : Int32, y = x2_12 + (1 : Int32) := ⟨_, rfl⟩
            have hf := zlet_n ey7 hf
            refine g_iinc X (j := 2) [(2, .int y7), (0, .ref (base + r0)), (1, .int x1_2)] dX12_isSeen_56 rfl (by rw [ey7]; rfl) (by decide) rfl ?_
            refine g_goto X 12 dX12_isSeen_59 (by decide) ?_
            cases hf
            exact g_sub [1, 2, 0] rfl (hc0 rfl)
          · have hf := zneg hq hf
            refine g_aload_n X 0 dX12_isSeen_36 rfl ?_
            refine g_aload_n X 0 dX12_isSeen_37 rfl ?_
            refine g_aload_n X 0 dX12_isSeen_38 rfl ?_
            obtain ⟨r_8, hr_8, hf⟩ := zbd hf
            refine g_get X zf12 hk1 25 (by decide) w_f_RX12_36 rfl (zfv_r hr_8 rfl) dX12_isSeen_39 ?_
            refine g_iload_n X 1 dX12_isSeen_42 rfl ?_
            obtain ⟨hk9, hf⟩ := zite hf
            obtain ⟨hi10, hf⟩ := zite hf
            refine g_iald X hk9 hi10 dX12_isSeen_43 ?_
            refine g_iload_n X 2 dX12_isSeen_44 rfl ?_
            obtain ⟨v12, h11, hch11, hf⟩ := zc2_e hf
            refine g_callV X 2 (sX12_becomes hch11) zf12 hk1 ydX12_becomes w_ml_RX12_448 w_instanceMethod_X12_becomes w_sel_X12_becomes w_ini_RX12 w_code_X12_becomes (by decide) rfl (st := [.ref (base + r0)]) rfl rfl (Nat.le_of_ble_eq_true rfl) dX12_isSeen_45 ?_
            obtain ⟨v14, h13, hch13, hf⟩ := zc2_e hf
            refine g_callV X 1 (sX12_isOwned hch13) zf12 hk1 ydX12_isOwned w_ml_RX12_451 w_instanceMethod_X12_isOwned w_sel_X12_isOwned w_ini_RX12 w_code_X12_isOwned (by decide) rfl (st := []) rfl rfl (Nat.le_of_ble_eq_true rfl) dX12_isSeen_48 ?_
            refine g_if_eq X 56 dX12_isSeen_51 (by decide) (fun hq => ?_) (fun hq => ?_)
            · have hf := zpos hq hf
              obtain ⟨y15, ey15⟩ : ∃ y : Int32, y = x2_12 + (1 : Int32) := ⟨_, rfl⟩
              have hf := zlet_n ey15 hf
              refine g_iinc X (j := 2) [(2, .int y15), (0, .ref (base + r0)), (1, .int x1_2)] dX12_isSeen_56 rfl (by rw [ey15]; rfl) (by decide) rfl ?_
              refine g_goto X 12 dX12_isSeen_59 (by decide) ?_
              cases hf
              exact g_sub [1, 2, 0] rfl (hc0 rfl)
            · have hf := zneg hq hf
              cases hf
              have hc1 := hc1 (by decide)
              exact g_sub [] rfl (zun_p rfl hc1)
      · obtain ⟨ee, x2_k12, h_k12⟩ := qq
        have hf : kX12_isSeen_12 h r0 x1_2 ee x2_k12 h_k12 = some (e_2, q_2) := hf
        unfold kX12_isSeen_12 at hf
        by_cases hee0 : ee = 1
        · have hf := zpos hee0 hf
          refine zifp hee0 ?_
          show zG p l e { frames := 3, cells := 0, slots := 0, locals := 74 } s m args below meth c (MQ below (zQ D cA base h hE (some (.int rE))) args s 0 0 (zA base)) 3 D cA base h 54 [] [] h_k12
          cases hf
          have hc1 := hc1 (by decide)
          exact g_sub [] rfl (zun_p rfl hc1)
        have hf := zneg hee0 hf
        refine zifn hee0 ?_
        show zG p l e { frames := 3, cells := 0, slots := 0, locals := 74 } s m args below meth c (MQ below (zQ D cA base h hE (some (.int rE))) args s 0 0 (zA base)) 3 D cA base h 62 [(0, .ref (base + r0)), (1, .int x1_2)] [] h_k12
        obtain ⟨y16, ey16⟩ : ∃ y : Int32, y = x1_2 + (1 : Int32) := ⟨_, rfl⟩
        have hf := zlet_n ey16 hf
        refine g_iinc X (j := 1) [(1, .int y16), (0, .ref (base + r0))] dX12_isSeen_62 rfl (by rw [ey16]; rfl) (by decide) rfl ?_
        refine g_goto X 2 dX12_isSeen_65 (by decide) ?_
        cases hf
        exact g_sub [1, 0] rfl (hc0 rfl)
  · obtain ⟨ee, x1_k2, h_k2⟩ := qq
    have hf : kX12_isSeen_2 h ee x1_k2 h_k2 = some (rE, hE) := hf
    unfold kX12_isSeen_2 at hf
    by_cases hee0 : ee = 1
    · have hf := zpos hee0 hf
      refine zifp hee0 ?_
      show zG p l e { frames := 3, cells := 0, slots := 0, locals := 74 } s m args below meth c (MQ below (zQ D cA base h hE (some (.int rE))) args s 0 0 (zA base)) 3 D cA base h 54 [] [] h_k2
      refine g_iconst X (v := 0) dX12_isSeen_54 (by decide) ?_
      obtain ⟨rfl, rfl⟩ := zsm hf
      exact g_zret X (Or.inl rfl) hr dX12_isSeen_55
    have hf := zneg hee0 hf
    refine zifn hee0 ?_
    show zG p l e { frames := 3, cells := 0, slots := 0, locals := 74 } s m args below meth c (MQ below (zQ D cA base h hE (some (.int rE))) args s 0 0 (zA base)) 3 D cA base h 68 [] [] h_k2
    refine g_iconst X (v := 1) dX12_isSeen_68 (by decide) ?_
    obtain ⟨rfl, rfl⟩ := zsm hf
    exact g_zret X (Or.inr rfl) hr dX12_isSeen_69

set_option maxHeartbeats 4000000 in
set_option maxRecDepth 100000 in
theorem sX12_ownsLaid {l : Launch} {D : va_G} {cA : Nat → ClassId} {base : Nat} {sA : Nat → Nat} {r0 : Nat} {h hE : Zh} (hf : fX12_ownsLaid r0 h = some hE) : zC l yX12_ownsLaid cX12_ownsLaid 2 none 2 45 D cA base sA [.ref (base + r0)] h none hE := by
  refine g_entry RX12 (by decide) rfl (Nat.le_of_ble_eq_true rfl) ?_
  intro p e s m args below meth c X hr
  unfold fX12_ownsLaid at hf
  have hf := zlet_n (x := h) rfl hf
  show zG p l e { frames := 2, cells := 0, slots := 0, locals := 45 } s m args below meth c (MQ below (zQ D cA base h hE none) args s 0 0 (zA base)) 2 D cA base h 0 [(0, .ref (base + r0))] [] h
  refine g_aload_n X 0 dX12_ownsLaid_0 rfl ?_
  obtain ⟨hk1, hf⟩ := zite hf
  obtain ⟨h2, hch2, hf⟩ := zbd hf
  refine g_callV X 0 (sX12_clearOwners hch2) zf12 hk1 ydX12_clearOwners w_ml_RX12_458 w_instanceMethod_X12_clearOwners w_sel_X12_clearOwners w_ini_RX12 w_code_X12_clearOwners (by decide) rfl (st := []) rfl rfl (Nat.le_of_ble_eq_true rfl) dX12_ownsLaid_1 ?_
  refine g_iconst X (v := 0) dX12_ownsLaid_4 (by decide) ?_
  refine g_istore_n X [(1, .int ((0 : Int32))), (0, .ref (base + r0))] dX12_ownsLaid_5 (by decide) rfl ?_
  refine g_sub [1, 0] rfl ?_
  obtain ⟨qq, hlp, hf⟩ := zbd hf
  refine lp_snd (body := (fun q : Int32 × Zh => bX12_ownsLaid_6 h r0 q.1 q.2)) (P := (fun q : Int32 × Zh => zG p l e { frames := 2, cells := 0, slots := 0, locals := 45 } s m args below meth c (MQ below (zQ D cA base h hE none) args s 0 0 (zA base)) 2 D cA base h 6 [(0, .ref (base + r0)), (1, .int q.1)] [] q.2)) (E := (fun (en : Nat) (q : Int32 × Zh) => zG p l e { frames := 2, cells := 0, slots := 0, locals := 45 } s m args below meth c (MQ below (zQ D cA base h hE none) args s 0 0 (zA base)) 2 D cA base h 47 [] [] q.2)) ?_ zB ((0 : Int32), h2) qq.1 qq.2 hlp ?_
  · intro q e_6 q_6 hf hc0 hc1
    obtain ⟨x1_6, h_6⟩ := q
    have hf : bX12_ownsLaid_6 h r0 x1_6 h_6 = some (e_6, q_6) := hf
    unfold bX12_ownsLaid_6 at hf
    show zG p l e { frames := 2, cells := 0, slots := 0, locals := 45 } s m args below meth c (MQ below (zQ D cA base h hE none) args s 0 0 (zA base)) 2 D cA base h 6 [(0, .ref (base + r0)), (1, .int x1_6)] [] h_6
    refine g_iload_n X 1 dX12_ownsLaid_6 rfl ?_
    refine g_aload_n X 0 dX12_ownsLaid_7 rfl ?_
    refine g_get X zf12 hk1 17 (by decide) w_f_RX12_356 rfl rfl dX12_ownsLaid_8 ?_
    refine g_icmp_ge X 47 dX12_ownsLaid_11 (by decide) (fun hq => ?_) (fun hq => ?_)
    · have hf := zpos hq hf
      cases hf
      have hc1 := hc1 (by decide)
      exact g_sub [] rfl hc1
    · have hf := zneg hq hf
      refine g_aload_n X 0 dX12_ownsLaid_14 rfl ?_
      obtain ⟨r_3, hr_3, hf⟩ := zbd hf
      refine g_get X zf12 hk1 25 (by decide) w_f_RX12_36 rfl (zfv_r hr_3 rfl) dX12_ownsLaid_15 ?_
      refine g_iload_n X 1 dX12_ownsLaid_18 rfl ?_
      obtain ⟨hk4, hf⟩ := zite hf
      obtain ⟨hi5, hf⟩ := zite hf
      refine g_iald X hk4 hi5 dX12_ownsLaid_19 ?_
      refine g_bipush X (v := -2) dX12_ownsLaid_20 (by decide) ?_
      refine g_icmp_eq X 41 dX12_ownsLaid_22 (by decide) (fun hq => ?_) (fun hq => ?_)
      · have hf := zpos hq hf
        obtain ⟨y6, ey6⟩ : ∃ y : Int32, y = x1_6 + (1 : Int32) := ⟨_, rfl⟩
        have hf := zlet_n ey6 hf
        refine g_iinc X (j := 1) [(1, .int y6), (0, .ref (base + r0))] dX12_ownsLaid_41 rfl (by rw [ey6]; rfl) (by decide) rfl ?_
        refine g_goto X 6 dX12_ownsLaid_44 (by decide) ?_
        cases hf
        exact g_sub [1, 0] rfl (hc0 rfl)
      · have hf := zneg hq hf
        refine g_aload_n X 0 dX12_ownsLaid_25 rfl ?_
        refine g_aload_n X 0 dX12_ownsLaid_26 rfl ?_
        obtain ⟨r_7, hr_7, hf⟩ := zbd hf
        refine g_get X zf12 hk1 25 (by decide) w_f_RX12_36 rfl (zfv_r hr_7 rfl) dX12_ownsLaid_27 ?_
        refine g_iload_n X 1 dX12_ownsLaid_30 rfl ?_
        obtain ⟨hk8, hf⟩ := zite hf
        obtain ⟨hi9, hf⟩ := zite hf
        refine g_iald X hk8 hi9 dX12_ownsLaid_31 ?_
        refine g_aload_n X 0 dX12_ownsLaid_32 rfl ?_
        obtain ⟨r_10, hr_10, hf⟩ := zbd hf
        refine g_get X zf12 hk1 25 (by decide) w_f_RX12_36 rfl (zfv_r hr_10 rfl) dX12_ownsLaid_33 ?_
        refine g_iload_n X 1 dX12_ownsLaid_36 rfl ?_
        obtain ⟨hk11, hf⟩ := zite hf
        obtain ⟨hi12, hf⟩ := zite hf
        refine g_iald X hk11 hi12 dX12_ownsLaid_37 ?_
        obtain ⟨h13, hch13, hf⟩ := zbd hf
        refine g_callV X 2 (sX12_owns hch13) zf12 hk1 ydX12_owns w_ml_RX12_461 w_instanceMethod_X12_owns w_sel_X12_owns w_ini_RX12 w_code_X12_owns (by decide) rfl (st := []) rfl rfl (Nat.le_of_ble_eq_true rfl) dX12_ownsLaid_38 ?_
        obtain ⟨y14, ey14⟩ : ∃ y : Int32, y = x1_6 + (1 : Int32) := ⟨_, rfl⟩
        have hf := zlet_n ey14 hf
        refine g_iinc X (j := 1) [(1, .int y14), (0, .ref (base + r0))] dX12_ownsLaid_41 rfl (by rw [ey14]; rfl) (by decide) rfl ?_
        refine g_goto X 6 dX12_ownsLaid_44 (by decide) ?_
        cases hf
        exact g_sub [1, 0] rfl (hc0 rfl)
  · obtain ⟨ee, x1_k6, h_k6⟩ := qq
    have hf : kX12_ownsLaid_6 h ee x1_k6 h_k6 = some hE := hf
    unfold kX12_ownsLaid_6 at hf
    show zG p l e { frames := 2, cells := 0, slots := 0, locals := 45 } s m args below meth c (MQ below (zQ D cA base h hE none) args s 0 0 (zA base)) 2 D cA base h 47 [] [] h_k6
    cases hf
    exact g_vret X hr dX12_ownsLaid_47

set_option maxHeartbeats 4000000 in
set_option maxRecDepth 100000 in
theorem sX12_seen {l : Launch} {D : va_G} {cA : Nat → ClassId} {base : Nat} {sA : Nat → Nat} {r0 : Nat} {x1 : Int32} {h hE : Zh} {rE : Int32} (hf : fX12_seen r0 x1 h = some (rE, hE)) : zC l yX12_seen cX12_seen 2 (some .int) 8 191 D cA base sA [.ref (base + r0), .int x1] h (some (.int rE)) hE := by
  refine g_entry RX12 (by decide) rfl (Nat.le_of_ble_eq_true rfl) ?_
  intro p e s m args below meth c X hr
  unfold fX12_seen at hf
  have hf := zlet_n (x := h) rfl hf
  show zG p l e { frames := 8, cells := 0, slots := 0, locals := 191 } s m args below meth c (MQ below (zQ D cA base h hE (some (.int rE))) args s 0 0 (zA base)) 2 D cA base h 0 [(0, .ref (base + r0)), (1, .int x1)] [] h
  refine g_aload_n X 0 dX12_seen_0 rfl ?_
  refine g_iconst X (v := 0) dX12_seen_1 (by decide) ?_
  obtain ⟨hk1, hf⟩ := zite hf
  refine g_putI X zf12 hk1 0 (by decide) w_f_RX12_86 rfl rfl rfl dX12_seen_2 ?_
  refine g_hp (fun h2 eh2 => ?_)
  have hf := zlet_n eh2 hf
  refine g_aload_n X 0 dX12_seen_5 rfl ?_
  refine g_iload_n X 1 dX12_seen_6 rfl ?_
  obtain ⟨v4, h3, hch3, hf⟩ := zc2_e hf
  refine g_callV X 1 (sX12_isRule hch3) zf12 hk1 ydX12_isRule w_ml_RX12_430 w_instanceMethod_X12_isRule w_sel_X12_isRule w_ini_RX12 w_code_X12_isRule (by decide) rfl (st := []) rfl rfl (Nat.le_of_ble_eq_true rfl) dX12_seen_7 ?_
  refine g_if_ne X 19 dX12_seen_10 (by decide) (fun hq => ?_) (fun hq => ?_)
  · have hf := zneg hq hf
    refine g_aload_n X 0 dX12_seen_19 rfl ?_
    refine g_iload_n X 1 dX12_seen_20 rfl ?_
    obtain ⟨h5, hch5, hf⟩ := zbd hf
    refine g_callV X 1 (sX12_laysAll hch5) zf12 hk1 ydX12_laysAll w_ml_RX12_436 w_instanceMethod_X12_laysAll w_sel_X12_laysAll w_ini_RX12 w_code_X12_laysAll (by decide) rfl (st := []) rfl rfl (Nat.le_of_ble_eq_true rfl) dX12_seen_21 ?_
    refine g_aload_n X 0 dX12_seen_24 rfl ?_
    obtain ⟨h6, hch6, hf⟩ := zbd hf
    refine g_callV X 0 (sX12_ownsLaid hch6) zf12 hk1 ydX12_ownsLaid w_ml_RX12_464 w_instanceMethod_X12_ownsLaid w_sel_X12_ownsLaid w_ini_RX12 w_code_X12_ownsLaid (by decide) rfl (st := []) rfl rfl (Nat.le_of_ble_eq_true rfl) dX12_seen_25 ?_
    refine g_aload_n X 0 dX12_seen_28 rfl ?_
    refine g_aload_n X 0 dX12_seen_29 rfl ?_
    obtain ⟨v8, h7, hch7, hf⟩ := zc2_e hf
    refine g_callV X 0 (sX12_isSeen hch7) zf12 hk1 ydX12_isSeen w_ml_RX12_467 w_instanceMethod_X12_isSeen w_sel_X12_isSeen w_ini_RX12 w_code_X12_isSeen (by decide) rfl (st := [.ref (base + r0)]) rfl rfl (Nat.le_of_ble_eq_true rfl) dX12_seen_30 ?_
    refine g_if_eq X 40 dX12_seen_33 (by decide) (fun hq => ?_) (fun hq => ?_)
    · have hf := zpos hq hf
      refine g_iconst X (v := 0) dX12_seen_40 (by decide) ?_
      obtain ⟨v10, h9, hch9, hf⟩ := zc2_e hf
      refine g_callV X 1 (sX12_good hch9) zf12 hk1 ydX12_good w_ml_RX12_96 w_instanceMethod_X12_good w_sel_X12_good w_ini_RX12 w_code_X12_good (by decide) rfl (st := []) rfl rfl (Nat.le_of_ble_eq_true rfl) dX12_seen_41 ?_
      obtain ⟨rfl, rfl⟩ := zsm hf
      exact g_iret X hr dX12_seen_44
    · have hf := zneg hq hf
      refine g_iconst X (v := 1) dX12_seen_36 (by decide) ?_
      refine g_goto X 41 dX12_seen_37 (by decide) ?_
      obtain ⟨v12, h11, hch11, hf⟩ := zc2_e hf
      refine g_callV X 1 (sX12_good hch11) zf12 hk1 ydX12_good w_ml_RX12_96 w_instanceMethod_X12_good w_sel_X12_good w_ini_RX12 w_code_X12_good (by decide) rfl (st := []) rfl rfl (Nat.le_of_ble_eq_true rfl) dX12_seen_41 ?_
      obtain ⟨rfl, rfl⟩ := zsm hf
      exact g_iret X hr dX12_seen_44
  · have hf := zpos hq hf
    refine g_aload_n X 0 dX12_seen_13 rfl ?_
    refine g_iconst X (v := 1) dX12_seen_14 (by decide) ?_
    obtain ⟨v14, h13, hch13, hf⟩ := zc2_e hf
    refine g_callV X 1 (sX12_refused hch13) zf12 hk1 ydX12_refused w_ml_RX12_92 w_instanceMethod_X12_refused w_sel_X12_refused w_ini_RX12 w_code_X12_refused (by decide) rfl (st := []) rfl rfl (Nat.le_of_ble_eq_true rfl) dX12_seen_15 ?_
    obtain ⟨rfl, rfl⟩ := zsm hf
    exact g_iret X hr dX12_seen_18

set_option maxHeartbeats 4000000 in
set_option maxRecDepth 100000 in
theorem sX12_isBorne {l : Launch} {D : va_G} {cA : Nat → ClassId} {base : Nat} {sA : Nat → Nat} {r0 : Nat} {h hE : Zh} {rE : Int32} (hf : fX12_isBorne r0 h = some (rE, hE)) : zC l yX12_isBorne cX12_isBorne 5 (some .boolean) 3 74 D cA base sA [.ref (base + r0)] h (some (.int rE)) hE := by
  refine g_entry RX12 (by decide) rfl (Nat.le_of_ble_eq_true rfl) ?_
  intro p e s m args below meth c X hr
  unfold fX12_isBorne at hf
  have hf := zlet_n (x := h) rfl hf
  show zG p l e { frames := 3, cells := 0, slots := 0, locals := 74 } s m args below meth c (MQ below (zQ D cA base h hE (some (.int rE))) args s 0 0 (zA base)) 5 D cA base h 0 [(0, .ref (base + r0))] [] h
  refine g_iconst X (v := 0) dX12_isBorne_0 (by decide) ?_
  refine g_istore_n X [(1, .int ((0 : Int32))), (0, .ref (base + r0))] dX12_isBorne_1 (by decide) rfl ?_
  refine g_sub [1, 0] rfl ?_
  obtain ⟨qq, hlp, hf⟩ := zbd hf
  refine lp_snd (body := (fun q : Int32 × Zh => bX12_isBorne_2 h r0 q.1 q.2)) (P := (fun q : Int32 × Zh => zG p l e { frames := 3, cells := 0, slots := 0, locals := 74 } s m args below meth c (MQ below (zQ D cA base h hE (some (.int rE))) args s 0 0 (zA base)) 5 D cA base h 2 [(0, .ref (base + r0)), (1, .int q.1)] [] q.2)) (E := (fun (en : Nat) (q : Int32 × Zh) => if en = 1 then zG p l e { frames := 3, cells := 0, slots := 0, locals := 74 } s m args below meth c (MQ below (zQ D cA base h hE (some (.int rE))) args s 0 0 (zA base)) 5 D cA base h 72 [] [] q.2 else zG p l e { frames := 3, cells := 0, slots := 0, locals := 74 } s m args below meth c (MQ below (zQ D cA base h hE (some (.int rE))) args s 0 0 (zA base)) 5 D cA base h 97 [] [] q.2)) ?_ zB ((0 : Int32), h) qq.1 qq.2 hlp ?_
  · intro q e_2 q_2 hf hc0 hc1
    obtain ⟨x1_2, h_2⟩ := q
    have hf : bX12_isBorne_2 h r0 x1_2 h_2 = some (e_2, q_2) := hf
    unfold bX12_isBorne_2 at hf
    show zG p l e { frames := 3, cells := 0, slots := 0, locals := 74 } s m args below meth c (MQ below (zQ D cA base h hE (some (.int rE))) args s 0 0 (zA base)) 5 D cA base h 2 [(0, .ref (base + r0)), (1, .int x1_2)] [] h_2
    refine g_iload_n X 1 dX12_isBorne_2 rfl ?_
    refine g_aload_n X 0 dX12_isBorne_3 rfl ?_
    obtain ⟨hk1, hf⟩ := zite hf
    refine g_get X zf12 hk1 17 (by decide) w_f_RX12_356 rfl rfl dX12_isBorne_4 ?_
    refine g_icmp_ge X 97 dX12_isBorne_7 (by decide) (fun hq => ?_) (fun hq => ?_)
    · have hf := zpos hq hf
      cases hf
      have hc1 := hc1 (by decide)
      exact g_sub [] rfl (zun_n (by decide) hc1)
    · have hf := zneg hq hf
      refine g_iconst X (v := 0) dX12_isBorne_10 (by decide) ?_
      refine g_istore_n X [(2, .int ((0 : Int32))), (0, .ref (base + r0)), (1, .int x1_2)] dX12_isBorne_11 (by decide) rfl ?_
      refine g_sub [1, 2, 0] rfl ?_
      obtain ⟨qq, hlp, hf⟩ := zbd hf
      refine lp_snd (body := (fun q : Int32 × Zh => bX12_isBorne_12 h r0 x1_2 q.1 q.2)) (P := (fun q : Int32 × Zh => zG p l e { frames := 3, cells := 0, slots := 0, locals := 74 } s m args below meth c (MQ below (zQ D cA base h hE (some (.int rE))) args s 0 0 (zA base)) 5 D cA base h 12 [(0, .ref (base + r0)), (1, .int x1_2), (2, .int q.1)] [] q.2)) (E := (fun (en : Nat) (q : Int32 × Zh) => if en = 1 then zG p l e { frames := 3, cells := 0, slots := 0, locals := 74 } s m args below meth c (MQ below (zQ D cA base h hE (some (.int rE))) args s 0 0 (zA base)) 5 D cA base h 72 [] [] q.2 else zG p l e { frames := 3, cells := 0, slots := 0, locals := 74 } s m args below meth c (MQ below (zQ D cA base h hE (some (.int rE))) args s 0 0 (zA base)) 5 D cA base h 91 [(0, .ref (base + r0)), (1, .int x1_2)] [] q.2)) ?_ zB ((0 : Int32), h_2) qq.1 qq.2 hlp ?_
      · intro q e_12 q_12 hf hc0 hc1
        obtain ⟨x2_12, h_12⟩ := q
        have hf : bX12_isBorne_12 h r0 x1_2 x2_12 h_12 = some (e_12, q_12) := hf
        unfold bX12_isBorne_12 at hf
        show zG p l e { frames := 3, cells := 0, slots := 0, locals := 74 } s m args below meth c (MQ below (zQ D cA base h hE (some (.int rE))) args s 0 0 (zA base)) 5 D cA base h 12 [(0, .ref (base + r0)), (1, .int x1_2), (2, .int x2_12)] [] h_12
        refine g_iload_n X 2 dX12_isBorne_12 rfl ?_
        refine g_iconst X (v := 1) dX12_isBorne_13 (by decide) ?_
        refine g_iadd X dX12_isBorne_14 ?_
        refine g_aload_n X 0 dX12_isBorne_15 rfl ?_
        obtain ⟨r_2, hr_2, hf⟩ := zbd hf
        refine g_get X zf12 hk1 3 (by decide) w_f_RX12_329 rfl (zfv_r hr_2 rfl) dX12_isBorne_16 ?_
        obtain ⟨hk3, hf⟩ := zite hf
        refine g_getN X zf11 hk3 4 (by decide) w_fn_RX12_257 rfl rfl dX12_isBorne_19 ?_
        refine g_icmp_ge X 91 dX12_isBorne_22 (by decide) (fun hq => ?_) (fun hq => ?_)
        · have hf := zpos hq hf
          cases hf
          have hc1 := hc1 (by decide)
          exact g_sub [0, 1] rfl (zun_n (by decide) hc1)
        · have hf := zneg hq hf
          refine g_aload_n X 0 dX12_isBorne_25 rfl ?_
          obtain ⟨r_4, hr_4, hf⟩ := zbd hf
          refine g_get X zf12 hk1 25 (by decide) w_f_RX12_36 rfl (zfv_r hr_4 rfl) dX12_isBorne_26 ?_
          refine g_iload_n X 1 dX12_isBorne_29 rfl ?_
          obtain ⟨hk5, hf⟩ := zite hf
          obtain ⟨hi6, hf⟩ := zite hf
          refine g_iald X hk5 hi6 dX12_isBorne_30 ?_
          refine g_bipush X (v := -2) dX12_isBorne_31 (by decide) ?_
          refine g_icmp_eq X 91 dX12_isBorne_33 (by decide) (fun hq => ?_) (fun hq => ?_)
          · have hf := zpos hq hf
            cases hf
            have hc1 := hc1 (by decide)
            exact g_sub [0, 1] rfl (zun_n (by decide) hc1)
          · have hf := zneg hq hf
            refine g_aload_n X 0 dX12_isBorne_36 rfl ?_
            refine g_aload_n X 0 dX12_isBorne_37 rfl ?_
            obtain ⟨r_7, hr_7, hf⟩ := zbd hf
            refine g_get X zf12 hk1 25 (by decide) w_f_RX12_36 rfl (zfv_r hr_7 rfl) dX12_isBorne_38 ?_
            refine g_iload_n X 1 dX12_isBorne_41 rfl ?_
            obtain ⟨hk8, hf⟩ := zite hf
            obtain ⟨hi9, hf⟩ := zite hf
            refine g_iald X hk8 hi9 dX12_isBorne_42 ?_
            refine g_iload_n X 2 dX12_isBorne_43 rfl ?_
            obtain ⟨v11, h10, hch10, hf⟩ := zc2_e hf
            refine g_callV X 2 (sX12_becomes hch10) zf12 hk1 ydX12_becomes w_ml_RX12_448 w_instanceMethod_X12_becomes w_sel_X12_becomes w_ini_RX12 w_code_X12_becomes (by decide) rfl (st := []) rfl rfl (Nat.le_of_ble_eq_true rfl) dX12_isBorne_44 ?_
            refine g_istore_n X [(3, .int v11), (0, .ref (base + r0)), (1, .int x1_2), (2, .int x2_12)] dX12_isBorne_47 (by decide) rfl ?_
            refine g_aload_n X 1 dX12_isBorne_48 rfl ?_
            refine g_iload_n X 0 dX12_isBorne_49 rfl ?_
            obtain ⟨v13, h12, hch12, hf⟩ := zc2_e hf
            refine g_callV X 1 (sX12_ownerOf hch12) zf12 hk1 ydX12_ownerOf w_ml_RX12_470 w_instanceMethod_X12_ownerOf w_sel_X12_ownerOf w_ini_RX12 w_code_X12_ownerOf (by decide) rfl (st := []) rfl rfl (Nat.le_of_ble_eq_true rfl) dX12_isBorne_50 ?_
            refine g_istore X [(4, .int v13), (3, .int v11), (0, .ref (base + r0)), (1, .int x1_2), (2, .int x2_12)] dX12_isBorne_53 (by decide) rfl ?_
            refine g_iload X 0 dX12_isBorne_55 rfl ?_
            refine g_iconst X (v := -1) dX12_isBorne_57 (by decide) ?_
            refine g_icmp_eq X 74 dX12_isBorne_58 (by decide) (fun hq => ?_) (fun hq => ?_)
            · have hf := zpos hq hf
              refine g_aload_n X 2 dX12_isBorne_74 rfl ?_
              refine g_iload_n X 1 dX12_isBorne_75 rfl ?_
              refine g_aload_n X 2 dX12_isBorne_76 rfl ?_
              obtain ⟨r_14, hr_14, hf⟩ := zbd hf
              refine g_get X zf12 hk1 25 (by decide) w_f_RX12_36 rfl (zfv_r hr_14 rfl) dX12_isBorne_77 ?_
              refine g_iload_n X 3 dX12_isBorne_80 rfl ?_
              obtain ⟨hk15, hf⟩ := zite hf
              obtain ⟨hi16, hf⟩ := zite hf
              refine g_iald X hk15 hi16 dX12_isBorne_81 ?_
              obtain ⟨h17, hch17, hf⟩ := zbd hf
              refine g_callV X 2 (sX12_owns hch17) zf12 hk1 ydX12_owns w_ml_RX12_461 w_instanceMethod_X12_owns w_sel_X12_owns w_ini_RX12 w_code_X12_owns (by decide) rfl (st := []) rfl rfl (Nat.le_of_ble_eq_true rfl) dX12_isBorne_82 ?_
              obtain ⟨y18, ey18⟩ : ∃ y : Int32, y = x2_12 + (1 : Int32) := ⟨_, rfl⟩
              have hf := zlet_n ey18 hf
              refine g_iinc X (j := 4) [(2, .int y18), (4, .int v13), (3, .int v11), (0, .ref (base + r0)), (1, .int x1_2)] dX12_isBorne_85 rfl (by rw [ey18]; rfl) (by decide) rfl ?_
              refine g_goto X 12 dX12_isBorne_88 (by decide) ?_
              cases hf
              exact g_sub [3, 4, 0] rfl (hc0 rfl)
            · have hf := zneg hq hf
              refine g_iload X 0 dX12_isBorne_61 rfl ?_
              refine g_aload_n X 2 dX12_isBorne_63 rfl ?_
              obtain ⟨r_19, hr_19, hf⟩ := zbd hf
              refine g_get X zf12 hk1 25 (by decide) w_f_RX12_36 rfl (zfv_r hr_19 rfl) dX12_isBorne_64 ?_
              refine g_iload_n X 3 dX12_isBorne_67 rfl ?_
              obtain ⟨hk20, hf⟩ := zite hf
              obtain ⟨hi21, hf⟩ := zite hf
              refine g_iald X hk20 hi21 dX12_isBorne_68 ?_
              refine g_icmp_eq X 74 dX12_isBorne_69 (by decide) (fun hq => ?_) (fun hq => ?_)
              · have hf := zpos hq hf
                refine g_aload_n X 2 dX12_isBorne_74 rfl ?_
                refine g_iload_n X 1 dX12_isBorne_75 rfl ?_
                refine g_aload_n X 2 dX12_isBorne_76 rfl ?_
                obtain ⟨r_22, hr_22, hf⟩ := zbd hf
                refine g_get X zf12 hk1 25 (by decide) w_f_RX12_36 rfl (zfv_r hr_22 rfl) dX12_isBorne_77 ?_
                refine g_iload_n X 3 dX12_isBorne_80 rfl ?_
                obtain ⟨hk23, hf⟩ := zite hf
                obtain ⟨hi24, hf⟩ := zite hf
                refine g_iald X hk23 hi24 dX12_isBorne_81 ?_
                obtain ⟨h25, hch25, hf⟩ := zbd hf
                refine g_callV X 2 (sX12_owns hch25) zf12 hk1 ydX12_owns w_ml_RX12_461 w_instanceMethod_X12_owns w_sel_X12_owns w_ini_RX12 w_code_X12_owns (by decide) rfl (st := []) rfl rfl (Nat.le_of_ble_eq_true rfl) dX12_isBorne_82 ?_
                obtain ⟨y26, ey26⟩ : ∃ y : Int32, y = x2_12 + (1 : Int32) := ⟨_, rfl⟩
                have hf := zlet_n ey26 hf
                refine g_iinc X (j := 4) [(2, .int y26), (4, .int v13), (3, .int v11), (0, .ref (base + r0)), (1, .int x1_2)] dX12_isBorne_85 rfl (by rw [ey26]; rfl) (by decide) rfl ?_
                refine g_goto X 12 dX12_isBorne_88 (by decide) ?_
                cases hf
                exact g_sub [3, 4, 0] rfl (hc0 rfl)
              · have hf := zneg hq hf
                cases hf
                have hc1 := hc1 (by decide)
                exact g_sub [] rfl (zun_p rfl hc1)
      · obtain ⟨ee, x2_k12, h_k12⟩ := qq
        have hf : kX12_isBorne_12 h r0 x1_2 ee x2_k12 h_k12 = some (e_2, q_2) := hf
        unfold kX12_isBorne_12 at hf
        by_cases hee0 : ee = 1
        · have hf := zpos hee0 hf
          refine zifp hee0 ?_
          show zG p l e { frames := 3, cells := 0, slots := 0, locals := 74 } s m args below meth c (MQ below (zQ D cA base h hE (some (.int rE))) args s 0 0 (zA base)) 5 D cA base h 72 [] [] h_k12
          cases hf
          have hc1 := hc1 (by decide)
          exact g_sub [] rfl (zun_p rfl hc1)
        have hf := zneg hee0 hf
        refine zifn hee0 ?_
        show zG p l e { frames := 3, cells := 0, slots := 0, locals := 74 } s m args below meth c (MQ below (zQ D cA base h hE (some (.int rE))) args s 0 0 (zA base)) 5 D cA base h 91 [(0, .ref (base + r0)), (1, .int x1_2)] [] h_k12
        obtain ⟨y27, ey27⟩ : ∃ y : Int32, y = x1_2 + (1 : Int32) := ⟨_, rfl⟩
        have hf := zlet_n ey27 hf
        refine g_iinc X (j := 1) [(1, .int y27), (0, .ref (base + r0))] dX12_isBorne_91 rfl (by rw [ey27]; rfl) (by decide) rfl ?_
        refine g_goto X 2 dX12_isBorne_94 (by decide) ?_
        cases hf
        exact g_sub [1, 0] rfl (hc0 rfl)
  · obtain ⟨ee, x1_k2, h_k2⟩ := qq
    have hf : kX12_isBorne_2 h ee x1_k2 h_k2 = some (rE, hE) := hf
    unfold kX12_isBorne_2 at hf
    by_cases hee0 : ee = 1
    · have hf := zpos hee0 hf
      refine zifp hee0 ?_
      show zG p l e { frames := 3, cells := 0, slots := 0, locals := 74 } s m args below meth c (MQ below (zQ D cA base h hE (some (.int rE))) args s 0 0 (zA base)) 5 D cA base h 72 [] [] h_k2
      refine g_iconst X (v := 0) dX12_isBorne_72 (by decide) ?_
      obtain ⟨rfl, rfl⟩ := zsm hf
      exact g_zret X (Or.inl rfl) hr dX12_isBorne_73
    have hf := zneg hee0 hf
    refine zifn hee0 ?_
    show zG p l e { frames := 3, cells := 0, slots := 0, locals := 74 } s m args below meth c (MQ below (zQ D cA base h hE (some (.int rE))) args s 0 0 (zA base)) 5 D cA base h 97 [] [] h_k2
    refine g_iconst X (v := 1) dX12_isBorne_97 (by decide) ?_
    obtain ⟨rfl, rfl⟩ := zsm hf
    exact g_zret X (Or.inr rfl) hr dX12_isBorne_98

set_option maxHeartbeats 4000000 in
set_option maxRecDepth 100000 in
theorem sX12_borne {l : Launch} {D : va_G} {cA : Nat → ClassId} {base : Nat} {sA : Nat → Nat} {r0 : Nat} {x1 : Int32} {h hE : Zh} {rE : Int32} (hf : fX12_borne r0 x1 h = some (rE, hE)) : zC l yX12_borne cX12_borne 2 (some .int) 8 191 D cA base sA [.ref (base + r0), .int x1] h (some (.int rE)) hE := by
  refine g_entry RX12 (by decide) rfl (Nat.le_of_ble_eq_true rfl) ?_
  intro p e s m args below meth c X hr
  unfold fX12_borne at hf
  have hf := zlet_n (x := h) rfl hf
  show zG p l e { frames := 8, cells := 0, slots := 0, locals := 191 } s m args below meth c (MQ below (zQ D cA base h hE (some (.int rE))) args s 0 0 (zA base)) 2 D cA base h 0 [(0, .ref (base + r0)), (1, .int x1)] [] h
  refine g_aload_n X 0 dX12_borne_0 rfl ?_
  refine g_iconst X (v := 0) dX12_borne_1 (by decide) ?_
  obtain ⟨hk1, hf⟩ := zite hf
  refine g_putI X zf12 hk1 0 (by decide) w_f_RX12_86 rfl rfl rfl dX12_borne_2 ?_
  refine g_hp (fun h2 eh2 => ?_)
  have hf := zlet_n eh2 hf
  refine g_aload_n X 0 dX12_borne_5 rfl ?_
  refine g_iload_n X 1 dX12_borne_6 rfl ?_
  obtain ⟨v4, h3, hch3, hf⟩ := zc2_e hf
  refine g_callV X 1 (sX12_isRule hch3) zf12 hk1 ydX12_isRule w_ml_RX12_430 w_instanceMethod_X12_isRule w_sel_X12_isRule w_ini_RX12 w_code_X12_isRule (by decide) rfl (st := []) rfl rfl (Nat.le_of_ble_eq_true rfl) dX12_borne_7 ?_
  refine g_if_ne X 19 dX12_borne_10 (by decide) (fun hq => ?_) (fun hq => ?_)
  · have hf := zneg hq hf
    refine g_aload_n X 0 dX12_borne_19 rfl ?_
    refine g_iload_n X 1 dX12_borne_20 rfl ?_
    obtain ⟨h5, hch5, hf⟩ := zbd hf
    refine g_callV X 1 (sX12_laysAll hch5) zf12 hk1 ydX12_laysAll w_ml_RX12_436 w_instanceMethod_X12_laysAll w_sel_X12_laysAll w_ini_RX12 w_code_X12_laysAll (by decide) rfl (st := []) rfl rfl (Nat.le_of_ble_eq_true rfl) dX12_borne_21 ?_
    refine g_aload_n X 0 dX12_borne_24 rfl ?_
    obtain ⟨h6, hch6, hf⟩ := zbd hf
    refine g_callV X 0 (sX12_ownsLaid hch6) zf12 hk1 ydX12_ownsLaid w_ml_RX12_464 w_instanceMethod_X12_ownsLaid w_sel_X12_ownsLaid w_ini_RX12 w_code_X12_ownsLaid (by decide) rfl (st := []) rfl rfl (Nat.le_of_ble_eq_true rfl) dX12_borne_25 ?_
    refine g_aload_n X 0 dX12_borne_28 rfl ?_
    refine g_aload_n X 0 dX12_borne_29 rfl ?_
    obtain ⟨v8, h7, hch7, hf⟩ := zc2_e hf
    refine g_callV X 0 (sX12_isSeen hch7) zf12 hk1 ydX12_isSeen w_ml_RX12_467 w_instanceMethod_X12_isSeen w_sel_X12_isSeen w_ini_RX12 w_code_X12_isSeen (by decide) rfl (st := [.ref (base + r0)]) rfl rfl (Nat.le_of_ble_eq_true rfl) dX12_borne_30 ?_
    refine g_if_eq X 47 dX12_borne_33 (by decide) (fun hq => ?_) (fun hq => ?_)
    · have hf := zpos hq hf
      refine g_iconst X (v := 0) dX12_borne_47 (by decide) ?_
      obtain ⟨v10, h9, hch9, hf⟩ := zc2_e hf
      refine g_callV X 1 (sX12_good hch9) zf12 hk1 ydX12_good w_ml_RX12_96 w_instanceMethod_X12_good w_sel_X12_good w_ini_RX12 w_code_X12_good (by decide) rfl (st := []) rfl rfl (Nat.le_of_ble_eq_true rfl) dX12_borne_48 ?_
      obtain ⟨rfl, rfl⟩ := zsm hf
      exact g_iret X hr dX12_borne_51
    · have hf := zneg hq hf
      refine g_aload_n X 0 dX12_borne_36 rfl ?_
      obtain ⟨v12, h11, hch11, hf⟩ := zc2_e hf
      refine g_callV X 0 (sX12_isBorne hch11) zf12 hk1 ydX12_isBorne w_ml_RX12_473 w_instanceMethod_X12_isBorne w_sel_X12_isBorne w_ini_RX12 w_code_X12_isBorne (by decide) rfl (st := [.ref (base + r0)]) rfl rfl (Nat.le_of_ble_eq_true rfl) dX12_borne_37 ?_
      refine g_if_eq X 47 dX12_borne_40 (by decide) (fun hq => ?_) (fun hq => ?_)
      · have hf := zpos hq hf
        refine g_iconst X (v := 0) dX12_borne_47 (by decide) ?_
        obtain ⟨v14, h13, hch13, hf⟩ := zc2_e hf
        refine g_callV X 1 (sX12_good hch13) zf12 hk1 ydX12_good w_ml_RX12_96 w_instanceMethod_X12_good w_sel_X12_good w_ini_RX12 w_code_X12_good (by decide) rfl (st := []) rfl rfl (Nat.le_of_ble_eq_true rfl) dX12_borne_48 ?_
        obtain ⟨rfl, rfl⟩ := zsm hf
        exact g_iret X hr dX12_borne_51
      · have hf := zneg hq hf
        refine g_iconst X (v := 1) dX12_borne_43 (by decide) ?_
        refine g_goto X 48 dX12_borne_44 (by decide) ?_
        obtain ⟨v16, h15, hch15, hf⟩ := zc2_e hf
        refine g_callV X 1 (sX12_good hch15) zf12 hk1 ydX12_good w_ml_RX12_96 w_instanceMethod_X12_good w_sel_X12_good w_ini_RX12 w_code_X12_good (by decide) rfl (st := []) rfl rfl (Nat.le_of_ble_eq_true rfl) dX12_borne_48 ?_
        obtain ⟨rfl, rfl⟩ := zsm hf
        exact g_iret X hr dX12_borne_51
  · have hf := zpos hq hf
    refine g_aload_n X 0 dX12_borne_13 rfl ?_
    refine g_iconst X (v := 1) dX12_borne_14 (by decide) ?_
    obtain ⟨v18, h17, hch17, hf⟩ := zc2_e hf
    refine g_callV X 1 (sX12_refused hch17) zf12 hk1 ydX12_refused w_ml_RX12_92 w_instanceMethod_X12_refused w_sel_X12_refused w_ini_RX12 w_code_X12_refused (by decide) rfl (st := []) rfl rfl (Nat.le_of_ble_eq_true rfl) dX12_borne_15 ?_
    obtain ⟨rfl, rfl⟩ := zsm hf
    exact g_iret X hr dX12_borne_18

set_option maxHeartbeats 4000000 in
set_option maxRecDepth 100000 in
theorem sX12_wordsWork {l : Launch} {D : va_G} {cA : Nat → ClassId} {base : Nat} {sA : Nat → Nat} {r0 : Nat} {x1 : Int32} {h hE : Zh} {rE : Int32} (hf : fX12_wordsWork r0 x1 h = some (rE, hE)) : zC l yX12_wordsWork cX12_wordsWork 2 (some .int) 5 128 D cA base sA [.ref (base + r0), .int x1] h (some (.int rE)) hE := by
  refine g_entry RX12 (by decide) rfl (Nat.le_of_ble_eq_true rfl) ?_
  intro p e s m args below meth c X hr
  unfold fX12_wordsWork at hf
  have hf := zlet_n (x := h) rfl hf
  show zG p l e { frames := 5, cells := 0, slots := 0, locals := 128 } s m args below meth c (MQ below (zQ D cA base h hE (some (.int rE))) args s 0 0 (zA base)) 2 D cA base h 0 [(0, .ref (base + r0)), (1, .int x1)] [] h
  refine g_aload_n X 0 dX12_wordsWork_0 rfl ?_
  refine g_iconst X (v := 0) dX12_wordsWork_1 (by decide) ?_
  obtain ⟨hk1, hf⟩ := zite hf
  refine g_putI X zf12 hk1 0 (by decide) w_f_RX12_86 rfl rfl rfl dX12_wordsWork_2 ?_
  refine g_hp (fun h2 eh2 => ?_)
  have hf := zlet_n eh2 hf
  refine g_aload_n X 0 dX12_wordsWork_5 rfl ?_
  refine g_get X zf12 hk1 3 (by decide) w_f_RX12_329 rfl rfl dX12_wordsWork_6 ?_
  refine g_ifnonnull X 18 dX12_wordsWork_9 (by decide) (fun _ hq => ?_) (fun hq => ?_)
  · have hf := zpos (by rw [hq]; rfl) hf
    refine g_iload_n X 1 dX12_wordsWork_18 rfl ?_
    refine g_iconst X (v := 0) dX12_wordsWork_19 (by decide) ?_
    refine g_bipush X (v := 19) dX12_wordsWork_20 (by decide) ?_
    obtain ⟨v4, h3, hch3, hf⟩ := zc2_e hf
    refine g_callS X 3 (sX12_in hch3) ysX12_in w_ml_RX12_168 w_static_X12_in w_ini_RX12 w_code_X12_in (by decide) rfl (st := []) rfl rfl (Nat.le_of_ble_eq_true rfl) dX12_wordsWork_22 ?_
    refine g_if_ne X 34 dX12_wordsWork_25 (by decide) (fun hq => ?_) (fun hq => ?_)
    · have hf := zneg hq hf
      refine g_aload_n X 0 dX12_wordsWork_34 rfl ?_
      refine g_iload_n X 1 dX12_wordsWork_35 rfl ?_
      obtain ⟨h5, hch5, hf⟩ := zbd hf
      refine g_callV X 1 (sX12_laysAllWords hch5) zf12 hk1 ydX12_laysAllWords w_ml_RX12_476 w_instanceMethod_X12_laysAllWords w_sel_X12_laysAllWords w_ini_RX12 w_code_X12_laysAllWords (by decide) rfl (st := []) rfl rfl (Nat.le_of_ble_eq_true rfl) dX12_wordsWork_36 ?_
      refine g_aload_n X 0 dX12_wordsWork_39 rfl ?_
      refine g_aload_n X 0 dX12_wordsWork_40 rfl ?_
      obtain ⟨v7, h6, hch6, hf⟩ := zc2_e hf
      refine g_callV X 0 (sX12_isWorking hch6) zf12 hk1 ydX12_isWorking w_ml_RX12_445 w_instanceMethod_X12_isWorking w_sel_X12_isWorking w_ini_RX12 w_code_X12_isWorking (by decide) rfl (st := [.ref (base + r0)]) rfl rfl (Nat.le_of_ble_eq_true rfl) dX12_wordsWork_41 ?_
      refine g_if_eq X 51 dX12_wordsWork_44 (by decide) (fun hq => ?_) (fun hq => ?_)
      · have hf := zpos hq hf
        refine g_iconst X (v := 0) dX12_wordsWork_51 (by decide) ?_
        obtain ⟨v9, h8, hch8, hf⟩ := zc2_e hf
        refine g_callV X 1 (sX12_good hch8) zf12 hk1 ydX12_good w_ml_RX12_96 w_instanceMethod_X12_good w_sel_X12_good w_ini_RX12 w_code_X12_good (by decide) rfl (st := []) rfl rfl (Nat.le_of_ble_eq_true rfl) dX12_wordsWork_52 ?_
        obtain ⟨rfl, rfl⟩ := zsm hf
        exact g_iret X hr dX12_wordsWork_55
      · have hf := zneg hq hf
        refine g_iconst X (v := 1) dX12_wordsWork_47 (by decide) ?_
        refine g_goto X 52 dX12_wordsWork_48 (by decide) ?_
        obtain ⟨v11, h10, hch10, hf⟩ := zc2_e hf
        refine g_callV X 1 (sX12_good hch10) zf12 hk1 ydX12_good w_ml_RX12_96 w_instanceMethod_X12_good w_sel_X12_good w_ini_RX12 w_code_X12_good (by decide) rfl (st := []) rfl rfl (Nat.le_of_ble_eq_true rfl) dX12_wordsWork_52 ?_
        obtain ⟨rfl, rfl⟩ := zsm hf
        exact g_iret X hr dX12_wordsWork_55
    · have hf := zpos hq hf
      refine g_aload_n X 0 dX12_wordsWork_28 rfl ?_
      refine g_iconst X (v := 2) dX12_wordsWork_29 (by decide) ?_
      obtain ⟨v13, h12, hch12, hf⟩ := zc2_e hf
      refine g_callV X 1 (sX12_refused hch12) zf12 hk1 ydX12_refused w_ml_RX12_92 w_instanceMethod_X12_refused w_sel_X12_refused w_ini_RX12 w_code_X12_refused (by decide) rfl (st := []) rfl rfl (Nat.le_of_ble_eq_true rfl) dX12_wordsWork_30 ?_
      obtain ⟨rfl, rfl⟩ := zsm hf
      exact g_iret X hr dX12_wordsWork_33
  · have hf := zneg (by rw [hq]; decide) hf
    refine g_aload_n X 0 dX12_wordsWork_12 rfl ?_
    refine g_iconst X (v := 1) dX12_wordsWork_13 (by decide) ?_
    obtain ⟨v15, h14, hch14, hf⟩ := zc2_e hf
    refine g_callV X 1 (sX12_refused hch14) zf12 hk1 ydX12_refused w_ml_RX12_92 w_instanceMethod_X12_refused w_sel_X12_refused w_ini_RX12 w_code_X12_refused (by decide) rfl (st := []) rfl rfl (Nat.le_of_ble_eq_true rfl) dX12_wordsWork_14 ?_
    obtain ⟨rfl, rfl⟩ := zsm hf
    exact g_iret X hr dX12_wordsWork_17

set_option maxHeartbeats 4000000 in
set_option maxRecDepth 100000 in
theorem sX12_shortest {l : Launch} {D : va_G} {cA : Nat → ClassId} {base : Nat} {sA : Nat → Nat} {r0 : Nat} {h hE : Zh} {rE : Int32} (hf : fX12_shortest r0 h = some (rE, hE)) : zC l yX12_shortest cX12_shortest 2 (some .int) 5 128 D cA base sA [.ref (base + r0)] h (some (.int rE)) hE := by
  refine g_entry RX12 (by decide) rfl (Nat.le_of_ble_eq_true rfl) ?_
  intro p e s m args below meth c X hr
  unfold fX12_shortest at hf
  have hf := zlet_n (x := h) rfl hf
  show zG p l e { frames := 5, cells := 0, slots := 0, locals := 128 } s m args below meth c (MQ below (zQ D cA base h hE (some (.int rE))) args s 0 0 (zA base)) 2 D cA base h 0 [(0, .ref (base + r0))] [] h
  refine g_aload_n X 0 dX12_shortest_0 rfl ?_
  refine g_iconst X (v := 0) dX12_shortest_1 (by decide) ?_
  obtain ⟨hk1, hf⟩ := zite hf
  refine g_putI X zf12 hk1 0 (by decide) w_f_RX12_86 rfl rfl rfl dX12_shortest_2 ?_
  refine g_hp (fun h2 eh2 => ?_)
  have hf := zlet_n eh2 hf
  refine g_aload_n X 0 dX12_shortest_5 rfl ?_
  refine g_get X zf12 hk1 3 (by decide) w_f_RX12_329 rfl rfl dX12_shortest_6 ?_
  refine g_ifnonnull X 18 dX12_shortest_9 (by decide) (fun _ hq => ?_) (fun hq => ?_)
  · have hf := zpos (by rw [hq]; rfl) hf
    refine g_iconst X (v := 0) dX12_shortest_18 (by decide) ?_
    refine g_istore_n X [(1, .int ((0 : Int32))), (0, .ref (base + r0))] dX12_shortest_19 (by decide) rfl ?_
    refine g_sub [1, 0] rfl ?_
    obtain ⟨qq, hlp, hf⟩ := zbd hf
    refine lp_snd (body := (fun q : Int32 × Zh => bX12_shortest_20 h r0 q.1 q.2)) (P := (fun q : Int32 × Zh => zG p l e { frames := 5, cells := 0, slots := 0, locals := 128 } s m args below meth c (MQ below (zQ D cA base h hE (some (.int rE))) args s 0 0 (zA base)) 2 D cA base h 20 [(0, .ref (base + r0)), (1, .int q.1)] [] q.2)) (E := (fun (en : Nat) (q : Int32 × Zh) => if en = 1 then zG p l e { frames := 5, cells := 0, slots := 0, locals := 128 } s m args below meth c (MQ below (zQ D cA base h hE (some (.int rE))) args s 0 0 (zA base)) 2 D cA base h 38 [(0, .ref (base + r0)), (1, .int q.1)] [] q.2 else zG p l e { frames := 5, cells := 0, slots := 0, locals := 128 } s m args below meth c (MQ below (zQ D cA base h hE (some (.int rE))) args s 0 0 (zA base)) 2 D cA base h 50 [(0, .ref (base + r0))] [] q.2)) ?_ zB ((0 : Int32), h2) qq.1 qq.2 hlp ?_
    · intro q e_20 q_20 hf hc0 hc1
      obtain ⟨x1_20, h_20⟩ := q
      have hf : bX12_shortest_20 h r0 x1_20 h_20 = some (e_20, q_20) := hf
      unfold bX12_shortest_20 at hf
      show zG p l e { frames := 5, cells := 0, slots := 0, locals := 128 } s m args below meth c (MQ below (zQ D cA base h hE (some (.int rE))) args s 0 0 (zA base)) 2 D cA base h 20 [(0, .ref (base + r0)), (1, .int x1_20)] [] h_20
      refine g_iload_n X 1 dX12_shortest_20 rfl ?_
      refine g_bipush X (v := 20) dX12_shortest_21 (by decide) ?_
      refine g_icmp_ge X 50 dX12_shortest_23 (by decide) (fun hq => ?_) (fun hq => ?_)
      · have hf := zpos hq hf
        cases hf
        have hc1 := hc1 (by decide)
        exact g_sub [0] rfl (zun_n (by decide) hc1)
      · have hf := zneg hq hf
        refine g_aload_n X 0 dX12_shortest_26 rfl ?_
        refine g_iload_n X 1 dX12_shortest_27 rfl ?_
        obtain ⟨h3, hch3, hf⟩ := zbd hf
        refine g_callV X 1 (sX12_laysAllWords hch3) zf12 hk1 ydX12_laysAllWords w_ml_RX12_476 w_instanceMethod_X12_laysAllWords w_sel_X12_laysAllWords w_ini_RX12 w_code_X12_laysAllWords (by decide) rfl (st := []) rfl rfl (Nat.le_of_ble_eq_true rfl) dX12_shortest_28 ?_
        refine g_aload_n X 0 dX12_shortest_31 rfl ?_
        obtain ⟨v5, h4, hch4, hf⟩ := zc2_e hf
        refine g_callV X 0 (sX12_isWorking hch4) zf12 hk1 ydX12_isWorking w_ml_RX12_445 w_instanceMethod_X12_isWorking w_sel_X12_isWorking w_ini_RX12 w_code_X12_isWorking (by decide) rfl (st := []) rfl rfl (Nat.le_of_ble_eq_true rfl) dX12_shortest_32 ?_
        refine g_if_eq X 44 dX12_shortest_35 (by decide) (fun hq => ?_) (fun hq => ?_)
        · have hf := zpos hq hf
          obtain ⟨y6, ey6⟩ : ∃ y : Int32, y = x1_20 + (1 : Int32) := ⟨_, rfl⟩
          have hf := zlet_n ey6 hf
          refine g_iinc X (j := 1) [(1, .int y6), (0, .ref (base + r0))] dX12_shortest_44 rfl (by rw [ey6]; rfl) (by decide) rfl ?_
          refine g_goto X 20 dX12_shortest_47 (by decide) ?_
          cases hf
          exact g_sub [1, 0] rfl (hc0 rfl)
        · have hf := zneg hq hf
          cases hf
          have hc1 := hc1 (by decide)
          exact g_sub [0, 1] rfl (zun_p rfl hc1)
    · obtain ⟨ee, x1_k20, h_k20⟩ := qq
      have hf : kX12_shortest_20 h r0 ee x1_k20 h_k20 = some (rE, hE) := hf
      unfold kX12_shortest_20 at hf
      by_cases hee0 : ee = 1
      · have hf := zpos hee0 hf
        refine zifp hee0 ?_
        show zG p l e { frames := 5, cells := 0, slots := 0, locals := 128 } s m args below meth c (MQ below (zQ D cA base h hE (some (.int rE))) args s 0 0 (zA base)) 2 D cA base h 38 [(0, .ref (base + r0)), (1, .int x1_k20)] [] h_k20
        refine g_aload_n X 0 dX12_shortest_38 rfl ?_
        refine g_iload_n X 1 dX12_shortest_39 rfl ?_
        obtain ⟨v8, h7, hch7, hf⟩ := zc2_e hf
        refine g_callV X 1 (sX12_good hch7) zf12 hk1 ydX12_good w_ml_RX12_96 w_instanceMethod_X12_good w_sel_X12_good w_ini_RX12 w_code_X12_good (by decide) rfl (st := []) rfl rfl (Nat.le_of_ble_eq_true rfl) dX12_shortest_40 ?_
        obtain ⟨rfl, rfl⟩ := zsm hf
        exact g_iret X hr dX12_shortest_43
      have hf := zneg hee0 hf
      refine zifn hee0 ?_
      show zG p l e { frames := 5, cells := 0, slots := 0, locals := 128 } s m args below meth c (MQ below (zQ D cA base h hE (some (.int rE))) args s 0 0 (zA base)) 2 D cA base h 50 [(0, .ref (base + r0))] [] h_k20
      refine g_aload_n X 0 dX12_shortest_50 rfl ?_
      refine g_bipush X (v := -2) dX12_shortest_51 (by decide) ?_
      obtain ⟨v10, h9, hch9, hf⟩ := zc2_e hf
      refine g_callV X 1 (sX12_good hch9) zf12 hk1 ydX12_good w_ml_RX12_96 w_instanceMethod_X12_good w_sel_X12_good w_ini_RX12 w_code_X12_good (by decide) rfl (st := []) rfl rfl (Nat.le_of_ble_eq_true rfl) dX12_shortest_53 ?_
      obtain ⟨rfl, rfl⟩ := zsm hf
      exact g_iret X hr dX12_shortest_56
  · have hf := zneg (by rw [hq]; decide) hf
    refine g_aload_n X 0 dX12_shortest_12 rfl ?_
    refine g_iconst X (v := 1) dX12_shortest_13 (by decide) ?_
    obtain ⟨v12, h11, hch11, hf⟩ := zc2_e hf
    refine g_callV X 1 (sX12_refused hch11) zf12 hk1 ydX12_refused w_ml_RX12_92 w_instanceMethod_X12_refused w_sel_X12_refused w_ini_RX12 w_code_X12_refused (by decide) rfl (st := []) rfl rfl (Nat.le_of_ble_eq_true rfl) dX12_shortest_14 ?_
    obtain ⟨rfl, rfl⟩ := zsm hf
    exact g_iret X hr dX12_shortest_17

set_option maxHeartbeats 4000000 in
set_option maxRecDepth 100000 in
theorem sX12_pairs {l : Launch} {D : va_G} {cA : Nat → ClassId} {base : Nat} {sA : Nat → Nat} {r0 : Nat} {h hE : Zh} {rE : Int32} (hf : fX12_pairs r0 h = some (rE, hE)) : zC l yX12_pairs cX12_pairs 1 (some .int) 5 121 D cA base sA [.ref (base + r0)] h (some (.int rE)) hE := by
  refine g_entry RX12 (by decide) rfl (Nat.le_of_ble_eq_true rfl) ?_
  intro p e s m args below meth c X hr
  unfold fX12_pairs at hf
  have hf := zlet_n (x := h) rfl hf
  show zG p l e { frames := 5, cells := 0, slots := 0, locals := 121 } s m args below meth c (MQ below (zQ D cA base h hE (some (.int rE))) args s 0 0 (zA base)) 1 D cA base h 0 [(0, .ref (base + r0))] [] h
  refine g_aload_n X 0 dX12_pairs_0 rfl ?_
  refine g_iconst X (v := 0) dX12_pairs_1 (by decide) ?_
  obtain ⟨hk1, hf⟩ := zite hf
  refine g_putI X zf12 hk1 0 (by decide) w_f_RX12_86 rfl rfl rfl dX12_pairs_2 ?_
  refine g_hp (fun h2 eh2 => ?_)
  have hf := zlet_n eh2 hf
  refine g_aload_n X 0 dX12_pairs_5 rfl ?_
  refine g_get X zf12 hk1 3 (by decide) w_f_RX12_329 rfl rfl dX12_pairs_6 ?_
  refine g_ifnonnull X 20 dX12_pairs_9 (by decide) (fun _ hq => ?_) (fun hq => ?_)
  · have hf := zpos (by rw [hq]; rfl) hf
    refine g_aload_n X 0 dX12_pairs_20 rfl ?_
    refine g_aload_n X 0 dX12_pairs_21 rfl ?_
    obtain ⟨v4, h3, hch3, hf⟩ := zc2_e hf
    refine g_callV X 0 (sX12_pairsNow hch3) zf12 hk1 ydX12_pairsNow w_ml_RX12_488 w_instanceMethod_X12_pairsNow w_sel_X12_pairsNow w_ini_RX12 w_code_X12_pairsNow (by decide) rfl (st := [.ref (base + r0)]) rfl rfl (Nat.le_of_ble_eq_true rfl) dX12_pairs_22 ?_
    obtain ⟨v6, h5, hch5, hf⟩ := zc2_e hf
    refine g_callV X 1 (sX12_good hch5) zf12 hk1 ydX12_good w_ml_RX12_96 w_instanceMethod_X12_good w_sel_X12_good w_ini_RX12 w_code_X12_good (by decide) rfl (st := []) rfl rfl (Nat.le_of_ble_eq_true rfl) dX12_pairs_25 ?_
    obtain ⟨rfl, rfl⟩ := zsm hf
    exact g_iret X hr dX12_pairs_28
  · have hf := zneg (by rw [hq]; decide) hf
    refine g_aload_n X 0 dX12_pairs_12 rfl ?_
    refine g_iconst X (v := 1) dX12_pairs_13 (by decide) ?_
    obtain ⟨v8, h7, hch7, hf⟩ := zc2_e hf
    refine g_callV X 1 (sX12_refused hch7) zf12 hk1 ydX12_refused w_ml_RX12_92 w_instanceMethod_X12_refused w_sel_X12_refused w_ini_RX12 w_code_X12_refused (by decide) rfl (st := []) rfl rfl (Nat.le_of_ble_eq_true rfl) dX12_pairs_14 ?_
    refine g_goto X 28 dX12_pairs_17 (by decide) ?_
    obtain ⟨rfl, rfl⟩ := zsm hf
    exact g_iret X hr dX12_pairs_28

set_option maxHeartbeats 4000000 in
set_option maxRecDepth 100000 in
theorem sX12_table {l : Launch} {D : va_G} {cA : Nat → ClassId} {base : Nat} {sA : Nat → Nat} {r0 : Nat} {x1 : Int32} {h hE : Zh} {rE : Int32} (hf : fX12_table r0 x1 h = some (rE, hE)) : zC l yX12_table cX12_table 2 (some .int) 6 146 D cA base sA [.ref (base + r0), .int x1] h (some (.int rE)) hE := by
  refine g_entry RX12 (by decide) rfl (Nat.le_of_ble_eq_true rfl) ?_
  intro p e s m args below meth c X hr
  unfold fX12_table at hf
  have hf := zlet_n (x := h) rfl hf
  show zG p l e { frames := 6, cells := 0, slots := 0, locals := 146 } s m args below meth c (MQ below (zQ D cA base h hE (some (.int rE))) args s 0 0 (zA base)) 2 D cA base h 0 [(0, .ref (base + r0)), (1, .int x1)] [] h
  refine g_aload_n X 0 dX12_table_0 rfl ?_
  refine g_iconst X (v := 0) dX12_table_1 (by decide) ?_
  obtain ⟨hk1, hf⟩ := zite hf
  refine g_putI X zf12 hk1 0 (by decide) w_f_RX12_86 rfl rfl rfl dX12_table_2 ?_
  refine g_hp (fun h2 eh2 => ?_)
  have hf := zlet_n eh2 hf
  refine g_aload_n X 0 dX12_table_5 rfl ?_
  refine g_iload_n X 1 dX12_table_6 rfl ?_
  obtain ⟨v4, h3, hch3, hf⟩ := zc2_e hf
  refine g_callV X 1 (sX12_isHand hch3) zf12 hk1 ydX12_isHand w_ml_RX12_375 w_instanceMethod_X12_isHand w_sel_X12_isHand w_ini_RX12 w_code_X12_isHand (by decide) rfl (st := []) rfl rfl (Nat.le_of_ble_eq_true rfl) dX12_table_7 ?_
  refine g_if_ne X 19 dX12_table_10 (by decide) (fun hq => ?_) (fun hq => ?_)
  · have hf := zneg hq hf
    refine g_aload_n X 0 dX12_table_19 rfl ?_
    refine g_get X zf12 hk1 17 (by decide) w_f_RX12_356 rfl rfl dX12_table_20 ?_
    refine g_sipush X (v := 300) dX12_table_23 (by decide) ?_
    refine g_icmp_le X 35 dX12_table_26 (by decide) (fun hq => ?_) (fun hq => ?_)
    · have hf := zpos hq hf
      refine g_aload_n X 0 dX12_table_35 rfl ?_
      obtain ⟨h5, hch5, hf⟩ := zbd hf
      refine g_callV X 0 (sX12_knowsTable hch5) zf12 hk1 ydX12_knowsTable w_ml_RX12_424 w_instanceMethod_X12_knowsTable w_sel_X12_knowsTable w_ini_RX12 w_code_X12_knowsTable (by decide) rfl (st := []) rfl rfl (Nat.le_of_ble_eq_true rfl) dX12_table_36 ?_
      refine g_aload_n X 0 dX12_table_39 rfl ?_
      refine g_aload_n X 0 dX12_table_40 rfl ?_
      refine g_get X zf12 hk1 36 (by decide) w_f_RX12_427 rfl rfl dX12_table_41 ?_
      refine g_if_eq X 56 dX12_table_44 (by decide) (fun hq => ?_) (fun hq => ?_)
      · have hf := zpos hq hf
        refine g_bipush X (v := -2) dX12_table_56 (by decide) ?_
        obtain ⟨v7, h6, hch6, hf⟩ := zc2_e hf
        refine g_callV X 1 (sX12_good hch6) zf12 hk1 ydX12_good w_ml_RX12_96 w_instanceMethod_X12_good w_sel_X12_good w_ini_RX12 w_code_X12_good (by decide) rfl (st := []) rfl rfl (Nat.le_of_ble_eq_true rfl) dX12_table_58 ?_
        obtain ⟨rfl, rfl⟩ := zsm hf
        exact g_iret X hr dX12_table_61
      · have hf := zneg hq hf
        refine g_aload_n X 0 dX12_table_47 rfl ?_
        obtain ⟨r_8, hr_8, hf⟩ := zbd hf
        refine g_get X zf12 hk1 33 (by decide) w_f_RX12_62 rfl (zfv_r hr_8 rfl) dX12_table_48 ?_
        refine g_iload_n X 1 dX12_table_51 rfl ?_
        obtain ⟨hk9, hf⟩ := zite hf
        obtain ⟨hi10, hf⟩ := zite hf
        refine g_iald X hk9 hi10 dX12_table_52 ?_
        refine g_goto X 58 dX12_table_53 (by decide) ?_
        obtain ⟨v12, h11, hch11, hf⟩ := zc2_e hf
        refine g_callV X 1 (sX12_good hch11) zf12 hk1 ydX12_good w_ml_RX12_96 w_instanceMethod_X12_good w_sel_X12_good w_ini_RX12 w_code_X12_good (by decide) rfl (st := []) rfl rfl (Nat.le_of_ble_eq_true rfl) dX12_table_58 ?_
        obtain ⟨rfl, rfl⟩ := zsm hf
        exact g_iret X hr dX12_table_61
    · have hf := zneg hq hf
      refine g_aload_n X 0 dX12_table_29 rfl ?_
      refine g_iconst X (v := 3) dX12_table_30 (by decide) ?_
      obtain ⟨v14, h13, hch13, hf⟩ := zc2_e hf
      refine g_callV X 1 (sX12_refused hch13) zf12 hk1 ydX12_refused w_ml_RX12_92 w_instanceMethod_X12_refused w_sel_X12_refused w_ini_RX12 w_code_X12_refused (by decide) rfl (st := []) rfl rfl (Nat.le_of_ble_eq_true rfl) dX12_table_31 ?_
      obtain ⟨rfl, rfl⟩ := zsm hf
      exact g_iret X hr dX12_table_34
  · have hf := zpos hq hf
    refine g_aload_n X 0 dX12_table_13 rfl ?_
    refine g_iconst X (v := 1) dX12_table_14 (by decide) ?_
    obtain ⟨v16, h15, hch15, hf⟩ := zc2_e hf
    refine g_callV X 1 (sX12_refused hch15) zf12 hk1 ydX12_refused w_ml_RX12_92 w_instanceMethod_X12_refused w_sel_X12_refused w_ini_RX12 w_code_X12_refused (by decide) rfl (st := []) rfl rfl (Nat.le_of_ble_eq_true rfl) dX12_table_15 ?_
    obtain ⟨rfl, rfl⟩ := zsm hf
    exact g_iret X hr dX12_table_18

set_option maxHeartbeats 4000000 in
set_option maxRecDepth 100000 in
theorem sX12_countOf {l : Launch} {D : va_G} {cA : Nat → ClassId} {base : Nat} {sA : Nat → Nat} {r0 : Nat} {x1 : Int32} {x2 : Int32} {h hE : Zh} {rE : Int64} (hf : fX12_countOf r0 x1 x2 h = some (rE, hE)) : zC l yX12_countOf cX12_countOf 3 (some .long) 3 66 D cA base sA [.ref (base + r0), .int x1, .int x2] h (some (.long rE)) hE := by
  refine g_entry RX12 (by decide) rfl (Nat.le_of_ble_eq_true rfl) ?_
  intro p e s m args below meth c X hr
  unfold fX12_countOf at hf
  have hf := zlet_n (x := h) rfl hf
  show zG p l e { frames := 3, cells := 0, slots := 0, locals := 66 } s m args below meth c (MQ below (zQ D cA base h hE (some (.long rE))) args s 0 0 (zA base)) 3 D cA base h 0 [(0, .ref (base + r0)), (1, .int x1), (2, .int x2)] [] h
  refine g_iload_n X 2 dX12_countOf_0 rfl ?_
  refine g_if_ne X 13 dX12_countOf_1 (by decide) (fun hq => ?_) (fun hq => ?_)
  · have hf := zneg hq hf
    refine g_aload_n X 0 dX12_countOf_13 rfl ?_
    obtain ⟨hk1, hf⟩ := zite hf
    obtain ⟨r_2, hr_2, hf⟩ := zbd hf
    refine g_get X zf12 hk1 3 (by decide) w_f_RX12_329 rfl (zfv_r hr_2 rfl) dX12_countOf_14 ?_
    obtain ⟨hk3, hf⟩ := zite hf
    refine g_getN X zf11 hk3 8 (by decide) w_fn_RX12_245 rfl rfl dX12_countOf_17 ?_
    refine g_if_eq X 37 dX12_countOf_20 (by decide) (fun hq => ?_) (fun hq => ?_)
    · have hf := zpos hq hf
      refine g_iload_n X 1 dX12_countOf_37 rfl ?_
      refine g_aload_n X 0 dX12_countOf_38 rfl ?_
      obtain ⟨r_4, hr_4, hf⟩ := zbd hf
      refine g_get X zf12 hk1 3 (by decide) w_f_RX12_329 rfl (zfv_r hr_4 rfl) dX12_countOf_39 ?_
      obtain ⟨hk5, hf⟩ := zite hf
      refine g_getN X zf11 hk5 4 (by decide) w_fn_RX12_257 rfl rfl dX12_countOf_42 ?_
      obtain ⟨v7, h6, hch6, hf⟩ := zc2_e hf
      refine g_callS X 2 (sX12_rowsOf hch6) ysX12_rowsOf w_ml_RX12_99 w_static_X12_rowsOf w_ini_RX12 w_code_X12_rowsOf (by decide) rfl (st := []) rfl rfl (Nat.le_of_ble_eq_true rfl) dX12_countOf_45 ?_
      refine g_aload_n X 0 dX12_countOf_48 rfl ?_
      obtain ⟨r_8, hr_8, hf⟩ := zbd hf
      refine g_get X zf12 hk1 3 (by decide) w_f_RX12_329 rfl (zfv_r hr_8 rfl) dX12_countOf_49 ?_
      obtain ⟨hk9, hf⟩ := zite hf
      obtain ⟨v11, h10, hch10, hf⟩ := zc2_e hf
      refine g_callV X 0 (sX11_tilts hch10) zf11 hk9 ydX11_tilts w_ml_RX12_354 w_instanceMethod_X11_tilts w_sel_X11_tilts w_ini_RX11 w_code_X11_tilts (by decide) rfl (st := [.long v7]) rfl rfl (Nat.le_of_ble_eq_true rfl) dX12_countOf_52 ?_
      refine g_i2l X dX12_countOf_55 ?_
      refine g_lmul X dX12_countOf_56 ?_
      obtain ⟨rfl, rfl⟩ := zsm hf
      exact g_lret X hr dX12_countOf_57
    · have hf := zneg hq hf
      refine g_iload_n X 1 dX12_countOf_23 rfl ?_
      refine g_aload_n X 0 dX12_countOf_24 rfl ?_
      obtain ⟨r_12, hr_12, hf⟩ := zbd hf
      refine g_get X zf12 hk1 3 (by decide) w_f_RX12_329 rfl (zfv_r hr_12 rfl) dX12_countOf_25 ?_
      obtain ⟨hk13, hf⟩ := zite hf
      refine g_getN X zf11 hk13 4 (by decide) w_fn_RX12_257 rfl rfl dX12_countOf_28 ?_
      obtain ⟨v15, h14, hch14, hf⟩ := zc2_e hf
      refine g_callS X 2 (sX12_setsOf hch14) ysX12_setsOf w_ml_RX12_391 w_static_X12_setsOf w_ini_RX12 w_code_X12_setsOf (by decide) rfl (st := []) rfl rfl (Nat.le_of_ble_eq_true rfl) dX12_countOf_31 ?_
      refine g_goto X 48 dX12_countOf_34 (by decide) ?_
      refine g_aload_n X 0 dX12_countOf_48 rfl ?_
      obtain ⟨r_16, hr_16, hf⟩ := zbd hf
      refine g_get X zf12 hk1 3 (by decide) w_f_RX12_329 rfl (zfv_r hr_16 rfl) dX12_countOf_49 ?_
      obtain ⟨hk17, hf⟩ := zite hf
      obtain ⟨v19, h18, hch18, hf⟩ := zc2_e hf
      refine g_callV X 0 (sX11_tilts hch18) zf11 hk17 ydX11_tilts w_ml_RX12_354 w_instanceMethod_X11_tilts w_sel_X11_tilts w_ini_RX11 w_code_X11_tilts (by decide) rfl (st := [.long v15]) rfl rfl (Nat.le_of_ble_eq_true rfl) dX12_countOf_52 ?_
      refine g_i2l X dX12_countOf_55 ?_
      refine g_lmul X dX12_countOf_56 ?_
      obtain ⟨rfl, rfl⟩ := zsm hf
      exact g_lret X hr dX12_countOf_57
  · have hf := zpos hq hf
    refine g_aload_n X 0 dX12_countOf_4 rfl ?_
    obtain ⟨hk20, hf⟩ := zite hf
    obtain ⟨r_21, hr_21, hf⟩ := zbd hf
    refine g_get X zf12 hk20 3 (by decide) w_f_RX12_329 rfl (zfv_r hr_21 rfl) dX12_countOf_5 ?_
    refine g_iload_n X 1 dX12_countOf_8 rfl ?_
    obtain ⟨hk22, hf⟩ := zite hf
    obtain ⟨v24, h23, hch23, hf⟩ := zc2_e hf
    refine g_callV X 1 (sX11_handsOf hch23) zf11 hk22 ydX11_handsOf w_ml_RX12_234 w_instanceMethod_X11_handsOf w_sel_X11_handsOf w_ini_RX11 w_code_X11_handsOf (by decide) rfl (st := []) rfl rfl (Nat.le_of_ble_eq_true rfl) dX12_countOf_9 ?_
    obtain ⟨rfl, rfl⟩ := zsm hf
    exact g_lret X hr dX12_countOf_12

