/-! FifthCardModel wordOf -/
def bX12_wordOf_4 (g : Zh) (s0 : Nat) (j1 : Int64) (x3 : Int32) (h : Zh) : Option (Nat × Int64 × Int32 × Zh) :=
  zc2 (fJ0_length_8abf5 s0 h) fun v2 h1 => if v2 ≤ x3 then some (1, (j1, (x3, h1))) else zc2 (fJ0_charAt_5068e s0 x3 h1) fun v4 h3 => zlet ((((32 : Int64)) * j1) + (((v4 - ((97 : Int32))) + ((1 : Int32))).toInt64)) fun y5 => zlet (x3 + (1 : Int32)) fun y6 => some (0, (y5, (y6, h3)))
def kX12_wordOf_4 (g : Zh)  (e : Nat) (j1 : Int64) (x3 : Int32) (h : Zh) : Option (Int64 × Zh) :=
  some (j1, h)
def fX12_wordOf (s0 : Nat) (h : Zh) : Option (Int64 × Zh) := zlet h fun g =>
  (lp (fun q : Int64 × Int32 × Zh => bX12_wordOf_4 g s0 q.1 q.2.1 q.2.2) zB ((0 : Int64), ((0 : Int32), h))).bind fun q => kX12_wordOf_4 g q.1 q.2.1 q.2.2.1 q.2.2.2
/-! FifthCardModel isWord -/
def fX12_isWord (r0 : Nat) (s1 : Nat) (h : Zh) : Option (Int32 × Zh) := zlet h fun g =>
  if zK g r0 = 12 then if (zI h r0 9) = ((2 : Int32)) then zc2 (fX12_wordOf s1 h) fun v3 h2 => if (lg_cmp (zJ h r0 15) v3) = 0 then some ((1 : Int32), h2) else some ((0 : Int32), h2) else some ((0 : Int32), h) else none
/-! FifthCardModel eatsWord -/
def fX12_eatsWord (r0 : Nat) (s1 : Nat) (h : Zh) : Option (Int32 × Zh) := zlet h fun g =>
  if zK g r0 = 12 then zc2 (fX12_isWord r0 s1 h) fun v3 h2 => if v3 = 0 then if v3 = 0 ∨ v3 = 1 then some (v3, h2) else none else (fX12_goesOn r0 h2).bind fun h5 => if v3 = 0 ∨ v3 = 1 then some (v3, h5) else none else none
/-! FifthCardModel needs -/
def fX12_needs (r0 : Nat) (s1 : Nat) (h : Zh) : Option Zh := zlet h fun g =>
  if zK g r0 = 12 then zc2 (fX12_isWord r0 s1 h) fun v3 h2 => if v3 = 0 then (fX12_flaw r0 ((1 : Int32)) h2).bind fun h5 => (fX12_goesOn r0 h5).bind fun h6 => some h6 else (fX12_goesOn r0 h2).bind fun h4 => some h4 else none
/-! FifthCardModel readPart -/
def fX12_readPart (r0 : Nat) (s1 : Nat) (x2 : Int32) (x3 : Int32) (h : Zh) : Option (Int32 × Zh) := zlet h fun g =>
  if zK g r0 = 12 then (fX12_needs r0 s1 h).bind fun h2 => zc2 (fX12_bounded r0 x2 x3 h2) fun v4 h3 => (fX12_goesOn r0 h3).bind fun h5 => some (v4, h5) else none
/-! FifthCardModel isName -/
def fX12_isName (r0 : Nat) (h : Zh) : Option (Int32 × Zh) := zlet h fun g =>
  if zK g r0 = 12 then if (zI h r0 9) = ((2 : Int32)) then zc2 (fX12_isWord r0 0 h) fun v3 h2 => if v3 = 0 then zc2 (fX12_isWord r0 9 h2) fun v5 h4 => if v5 = 0 then zc2 (fX12_isWord r0 10 h4) fun v7 h6 => if v7 = 0 then zc2 (fX12_isWord r0 11 h6) fun v9 h8 => if v9 = 0 then zc2 (fX12_isWord r0 12 h8) fun v11 h10 => if v11 = 0 then some ((1 : Int32), h10) else some ((0 : Int32), h10) else some ((0 : Int32), h8) else some ((0 : Int32), h6) else some ((0 : Int32), h4) else some ((0 : Int32), h2) else some ((0 : Int32), h) else none
/-! FifthCardModel readTrick -/
def jX12_readTrick_199 (g : Zh) (r0 : Nat) (x1 : Int32) (x2 : Int32) (x3 : Int32) (x4 : Int32) (t0 : Int32) (t1 : Nat) (h : Zh) : Option Zh :=
  if zK g t1 = 11 then if t0 = 0 ∨ t0 = 1 then zlet (zsI h t1 8 t0) fun h34 => (zR h34 r0 4).bind fun r_36 => zc2 (fX12_eatsWord r0 8 h34) fun v38 h37 => if zK g r_36 = 11 then if v38 = 0 ∨ v38 = 1 then zlet (zsI h37 r_36 9 v38) fun h40 => if (zI h40 r0 9) = ((5 : Int32)) then some h40 else (zR h40 r0 4).bind fun r_42 => if zK g r_42 = 11 then zlet (zsI h40 r_42 0 x1) fun h44 => (zR h44 r0 4).bind fun r_45 => if zK g r_45 = 11 then zlet (zsI h44 r_45 1 x2) fun h47 => (zR h47 r0 4).bind fun r_48 => if zK g r_48 = 11 then zlet (zsI h47 r_48 3 x4) fun h50 => (zR h50 r0 4).bind fun r_51 => if zK g r_51 = 11 then zlet (zsI h50 r_51 4 (x3 - x4)) fun h53 => some h53 else none else none else none else none else none else none else none else none
def jX12_readTrick_198 (g : Zh) (r0 : Nat) (x1 : Int32) (x2 : Int32) (x3 : Int32) (x4 : Int32) (t0 : Nat) (h : Zh) : Option Zh :=
  jX12_readTrick_199 g r0 x1 x2 x3 x4 ((0 : Int32)) t0 h
def jX12_readTrick_167 (g : Zh) (r0 : Nat) (x1 : Int32) (x2 : Int32) (x3 : Int32) (x4 : Int32) (h : Zh) : Option Zh :=
  (fX12_goesOn r0 h).bind fun h29 => (zR h29 r0 4).bind fun r_30 => (zR h29 r0 4).bind fun r_31 => if zK g r_31 = 11 then if (zI h29 r_31 7) = 0 then zc2 (fX12_eatsWord r0 7 h29) fun v55 h54 => if v55 = 0 then jX12_readTrick_198 g r0 x1 x2 x3 x4 r_30 h54 else jX12_readTrick_199 g r0 x1 x2 x3 x4 ((1 : Int32)) r_30 h54 else jX12_readTrick_198 g r0 x1 x2 x3 x4 r_30 h29 else none
def jX12_readTrick_117 (g : Zh) (r0 : Nat) (x1 : Int32) (x2 : Int32) (x3 : Int32) (x4 : Int32) (h : Zh) : Option Zh :=
  (zR h r0 4).bind fun r_20 => zc2 (fX12_isWord r0 5 h) fun v22 h21 => if zK g r_20 = 11 then if v22 = 0 ∨ v22 = 1 then zlet (zsI h21 r_20 7 v22) fun h24 => (zR h24 r0 4).bind fun r_26 => if zK g r_26 = 11 then zlet (zsI h24 r_26 2 x3) fun h28 => if (zI h28 r0 9) = ((5 : Int32)) then jX12_readTrick_167 g r0 x1 x2 x3 x4 h28 else (zR h28 r0 4).bind fun r_56 => if zK g r_56 = 11 then zc2 (fX11_handsOf r_56 x1 h28) fun v59 h58 => if (lg_cmp v59 ((2000 : Int64))) ≤ 0 then jX12_readTrick_167 g r0 x1 x2 x3 x4 h58 else (fX12_flaw r0 ((7 : Int32)) h58).bind fun h60 => jX12_readTrick_167 g r0 x1 x2 x3 x4 h60 else none else none else none else none
def jX12_readTrick_89 (g : Zh) (r0 : Nat) (x1 : Int32) (x2 : Int32) (x3 : Int32) (t0 : Int32) (t1 : Int32) (t2 : Nat) (t3 : Nat) (h : Zh) : Option Zh :=
  if zK g t3 = 12 then zc2 (fX12_readPart t3 t2 t1 t0 h) fun v17 h16 => zc2 (fX12_isWord r0 6 h16) fun v19 h18 => if v19 = 0 then zc2 (fX12_isWord r0 5 h18) fun v62 h61 => if v62 = 0 then (fX12_flaw r0 ((1 : Int32)) h61).bind fun h63 => jX12_readTrick_117 g r0 x1 x2 x3 v17 h63 else jX12_readTrick_117 g r0 x1 x2 x3 v17 h61 else jX12_readTrick_117 g r0 x1 x2 x3 v17 h18 else none
def jX12_readTrick_71 (g : Zh) (r0 : Nat) (x1 : Int32) (x2 : Int32) (t0 : Int32) (t1 : Int32) (t2 : Nat) (t3 : Nat) (h : Zh) : Option Zh :=
  if zK g t3 = 12 then zc2 (fX12_readPart t3 t2 t1 t0 h) fun v14 h13 => if v14 ≤ ((2 : Int32)) then jX12_readTrick_89 g r0 x1 x2 v14 ((1 : Int32)) ((1 : Int32)) 4 r0 h13 else jX12_readTrick_89 g r0 x1 x2 v14 ((2 : Int32)) ((1 : Int32)) 4 r0 h13 else none
def jX12_readTrick_53 (g : Zh) (r0 : Nat) (x1 : Int32) (x2 : Int32) (h : Zh) : Option Zh :=
  (fX12_goesOn r0 h).bind fun h11 => if ((5 : Int32)) ≤ x1 then jX12_readTrick_71 g r0 x1 x2 ((5 : Int32)) ((2 : Int32)) 3 r0 h11 else jX12_readTrick_71 g r0 x1 x2 x1 ((2 : Int32)) 3 r0 h11
def jX12_readTrick_15 (g : Zh) (r0 : Nat) (h : Zh) : Option Zh :=
  (fX12_goesOn r0 h).bind fun h4 => zc2 (fX12_readPart r0 1 ((4 : Int32)) ((12 : Int32)) h4) fun v6 h5 => (fX12_needs r0 2 h5).bind fun h7 => zc2 (fX12_bounded r0 ((1 : Int32)) ((4 : Int32)) h7) fun v9 h8 => if ¬ v9 = 0 then if (zrem v6 v9) = 0 then jX12_readTrick_53 g r0 v6 v9 h8 else (fX12_flaw r0 ((4 : Int32)) h8).bind fun h64 => jX12_readTrick_53 g r0 v6 v9 h64 else none
def fX12_readTrick (r0 : Nat) (h : Zh) : Option Zh := zlet h fun g =>
  if zK g r0 = 12 then (zR h r0 4).bind fun r_2 => if zK g r_2 = 11 then if (zI h r_2 0) ≤ 0 then jX12_readTrick_15 g r0 h else (fX12_flaw r0 ((3 : Int32)) h).bind fun h65 => jX12_readTrick_15 g r0 h65 else none else none
/-! FifthCardModel readWords -/
def jX12_readWords_146 (g : Zh) (r0 : Nat) (x1 : Int32) (t0 : Int32) (h : Zh) : Option (Int32 × Zh) :=
  if t0 = ((-1 : Int32)) then (fX12_flaw r0 ((1 : Int32)) h).bind fun h21 => some ((((5 : Int32)) * x1) + t0, h21) else some ((((5 : Int32)) * x1) + t0, h)
def jX12_readWords_68 (g : Zh) (r0 : Nat) (x1 : Int32) (h : Zh) : Option (Int32 × Zh) :=
  (fX12_needs r0 20 h).bind fun h10 => zc2 (fX12_eatsWord r0 21 h10) fun v12 h11 => if v12 = 0 then zc2 (fX12_eatsWord r0 22 h11) fun v14 h13 => if v14 = 0 then zc2 (fX12_eatsWord r0 23 h13) fun v16 h15 => if v16 = 0 then zc2 (fX12_eatsWord r0 24 h15) fun v18 h17 => if v18 = 0 then zc2 (fX12_eatsWord r0 19 h17) fun v20 h19 => if v20 = 0 then jX12_readWords_146 g r0 x1 ((-1 : Int32)) h19 else jX12_readWords_146 g r0 x1 ((4 : Int32)) h19 else jX12_readWords_146 g r0 x1 ((3 : Int32)) h17 else jX12_readWords_146 g r0 x1 ((2 : Int32)) h15 else jX12_readWords_146 g r0 x1 ((1 : Int32)) h13 else jX12_readWords_146 g r0 x1 ((0 : Int32)) h11
def jX12_readWords_57 (g : Zh) (r0 : Nat) (t0 : Int32) (h : Zh) : Option (Int32 × Zh) :=
  if t0 = ((-1 : Int32)) then (fX12_flaw r0 ((1 : Int32)) h).bind fun h22 => jX12_readWords_68 g r0 t0 h22 else jX12_readWords_68 g r0 t0 h
def fX12_readWords (r0 : Nat) (h : Zh) : Option (Int32 × Zh) := zlet h fun g =>
  if zK g r0 = 12 then zc2 (fX12_eatsWord r0 16 h) fun v3 h2 => if v3 = 0 then zc2 (fX12_eatsWord r0 17 h2) fun v5 h4 => if v5 = 0 then zc2 (fX12_eatsWord r0 18 h4) fun v7 h6 => if v7 = 0 then zc2 (fX12_eatsWord r0 19 h6) fun v9 h8 => if v9 = 0 then jX12_readWords_57 g r0 ((-1 : Int32)) h8 else jX12_readWords_57 g r0 ((3 : Int32)) h8 else jX12_readWords_57 g r0 ((2 : Int32)) h6 else jX12_readWords_57 g r0 ((1 : Int32)) h4 else jX12_readWords_57 g r0 ((0 : Int32)) h2 else none
/-! FifthCardModel readRule -/
def bX12_readRule_26 (g : Zh) (r0 : Nat) (x1 : Int32) (h : Zh) : Option (Nat × Int32 × Zh) :=
  (zR h r0 4).bind fun r_7 => if zK g r_7 = 11 then if (zI h r_7 5) ≤ x1 then some (1, (x1, h)) else if (zI h r0 9) = ((5 : Int32)) then zlet (x1 + (1 : Int32)) fun y9 => some (0, (y9, h)) else (zR h r0 4).bind fun r_10 => if zK g r_10 = 11 then (zR h r_10 14).bind fun r_12 => if zK g r_12 = 102 then if zin x1 (zL g r_12) then if (lg_cmp (zJ h r_12 x1.toNatClampNeg) (zJ h r0 15)) = 0 then (fX12_flaw r0 ((3 : Int32)) h).bind fun h16 => zlet (x1 + (1 : Int32)) fun y17 => some (0, (y17, h16)) else zlet (x1 + (1 : Int32)) fun y15 => some (0, (y15, h)) else none else none else none else none
def jX12_readRule_141 (g : Zh) (r0 : Nat) (j1 : Int64) (x3 : Int32) (h : Zh) : Option Zh :=
  if (zI h r0 9) = ((5 : Int32)) then some h else (zR h r0 4).bind fun r_26 => if zK g r_26 = 11 then (zR h r_26 14).bind fun r_28 => (zR h r0 4).bind fun r_29 => if zK g r_29 = 11 then if zK g r_28 = 102 then if zin (zI h r_29 5) (zL g r_28) then zlet (zsJ h r_28 (zI h r_29 5).toNatClampNeg j1) fun h33 => (zR h33 r0 4).bind fun r_34 => if zK g r_34 = 11 then (zR h33 r_34 10).bind fun r_36 => (zR h33 r0 4).bind fun r_37 => if zK g r_37 = 11 then if zK g r_36 = 100 then if zin (zI h33 r_37 5) (zL g r_36) then zlet (zsI h33 r_36 (zI h33 r_37 5).toNatClampNeg x3) fun h41 => (zR h41 r0 4).bind fun r_42 => if zK g r_42 = 11 then zlet (zsI h41 r_42 5 ((zI h41 r_42 5) + ((1 : Int32)))) fun h44 => some h44 else none else none else none else none else none else none else none else none else none
def jX12_readRule_130 (g : Zh) (r0 : Nat) (j1 : Int64) (t0 : Int32) (h : Zh) : Option Zh :=
  if t0 = ((-1 : Int32)) then (fX12_flaw r0 ((1 : Int32)) h).bind fun h45 => jX12_readRule_141 g r0 j1 t0 h45 else jX12_readRule_141 g r0 j1 t0 h
def kX12_readRule_26 (g : Zh) (r0 : Nat) (e : Nat) (x1 : Int32) (h : Zh) : Option Zh :=
  zlet (zJ h r0 15) fun y18 => (fX12_goesOn r0 h).bind fun h19 => zc2 (fX12_eatsWord r0 13 h19) fun v21 h20 => if v21 = 0 then zc2 (fX12_eatsWord r0 14 h20) fun v23 h22 => if v23 = 0 then zc2 (fX12_eatsWord r0 15 h22) fun v25 h24 => if v25 = 0 then jX12_readRule_130 g r0 y18 ((-1 : Int32)) h24 else zc2 (fX12_readWords r0 h24) fun v47 h46 => jX12_readRule_130 g r0 y18 v47 h46 else jX12_readRule_130 g r0 y18 ((21 : Int32)) h22 else jX12_readRule_130 g r0 y18 ((20 : Int32)) h20
def jX12_readRule_24 (g : Zh) (r0 : Nat) (h : Zh) : Option Zh :=
  (lp (fun q : Int32 × Zh => bX12_readRule_26 g r0 q.1 q.2) zB ((0 : Int32), h)).bind fun q => kX12_readRule_26 g r0 q.1 q.2.1 q.2.2
def fX12_readRule (r0 : Nat) (h : Zh) : Option Zh := zlet h fun g =>
  if zK g r0 = 12 then (zR h r0 4).bind fun r_2 => if zK g r_2 = 11 then (fX12_begins r0 (zI h r_2 5) ((4 : Int32)) h).bind fun h4 => zc2 (fX12_isName r0 h4) fun v6 h5 => if v6 = 0 then (fX12_flaw r0 ((1 : Int32)) h5).bind fun h48 => jX12_readRule_24 g r0 h48 else jX12_readRule_24 g r0 h5 else none else none
theorem dX12_wordOf_0 : decode cX12_wordOf 0 = .ok (.lconst 0, 1) := by decide +kernel
theorem dX12_wordOf_1 : decode cX12_wordOf 1 = .ok (.lstore_n 1, 1) := by decide +kernel
theorem dX12_wordOf_2 : decode cX12_wordOf 2 = .ok (.iconst 0, 1) := by decide +kernel
theorem dX12_wordOf_3 : decode cX12_wordOf 3 = .ok (.istore_n 3, 1) := by decide +kernel
theorem dX12_wordOf_4 : decode cX12_wordOf 4 = .ok (.iload_n 3, 1) := by decide +kernel
theorem dX12_wordOf_5 : decode cX12_wordOf 5 = .ok (.aload_n 0, 1) := by decide +kernel
theorem dX12_wordOf_6 : decode cX12_wordOf 6 = .ok (.invokevirtual 106, 3) := by decide +kernel
theorem dX12_wordOf_9 : decode cX12_wordOf 9 = .ok (.if_icmp .ge 27, 3) := by decide +kernel
theorem dX12_wordOf_12 : decode cX12_wordOf 12 = .ok (.ldc2_w 112, 3) := by decide +kernel
theorem dX12_wordOf_15 : decode cX12_wordOf 15 = .ok (.lload_n 1, 1) := by decide +kernel
theorem dX12_wordOf_16 : decode cX12_wordOf 16 = .ok (.lmul, 1) := by decide +kernel
theorem dX12_wordOf_17 : decode cX12_wordOf 17 = .ok (.aload_n 0, 1) := by decide +kernel
theorem dX12_wordOf_18 : decode cX12_wordOf 18 = .ok (.iload_n 3, 1) := by decide +kernel
theorem dX12_wordOf_19 : decode cX12_wordOf 19 = .ok (.invokevirtual 114, 3) := by decide +kernel
theorem dX12_wordOf_22 : decode cX12_wordOf 22 = .ok (.bipush 97, 2) := by decide +kernel
theorem dX12_wordOf_24 : decode cX12_wordOf 24 = .ok (.isub, 1) := by decide +kernel
theorem dX12_wordOf_25 : decode cX12_wordOf 25 = .ok (.iconst 1, 1) := by decide +kernel
theorem dX12_wordOf_26 : decode cX12_wordOf 26 = .ok (.iadd, 1) := by decide +kernel
theorem dX12_wordOf_27 : decode cX12_wordOf 27 = .ok (.i2l, 1) := by decide +kernel
theorem dX12_wordOf_28 : decode cX12_wordOf 28 = .ok (.ladd, 1) := by decide +kernel
theorem dX12_wordOf_29 : decode cX12_wordOf 29 = .ok (.lstore_n 1, 1) := by decide +kernel
theorem dX12_wordOf_30 : decode cX12_wordOf 30 = .ok (.iinc 3 1, 3) := by decide +kernel
theorem dX12_wordOf_33 : decode cX12_wordOf 33 = .ok (.goto (-29), 3) := by decide +kernel
theorem dX12_wordOf_36 : decode cX12_wordOf 36 = .ok (.lload_n 1, 1) := by decide +kernel
theorem dX12_wordOf_37 : decode cX12_wordOf 37 = .ok (.lreturn, 1) := by decide +kernel
theorem dX12_isWord_0 : decode cX12_isWord 0 = .ok (.aload_n 0, 1) := by decide +kernel
theorem dX12_isWord_1 : decode cX12_isWord 1 = .ok (.getfield 118, 3) := by decide +kernel
theorem dX12_isWord_4 : decode cX12_isWord 4 = .ok (.iconst 2, 1) := by decide +kernel
theorem dX12_isWord_5 : decode cX12_isWord 5 = .ok (.if_icmp .ne 19, 3) := by decide +kernel
theorem dX12_isWord_8 : decode cX12_isWord 8 = .ok (.aload_n 0, 1) := by decide +kernel
theorem dX12_isWord_9 : decode cX12_isWord 9 = .ok (.getfield 137, 3) := by decide +kernel
theorem dX12_isWord_12 : decode cX12_isWord 12 = .ok (.aload_n 1, 1) := by decide +kernel
theorem dX12_isWord_13 : decode cX12_isWord 13 = .ok (.invokestatic 153, 3) := by decide +kernel
theorem dX12_isWord_16 : decode cX12_isWord 16 = .ok (.lcmp, 1) := by decide +kernel
theorem dX12_isWord_17 : decode cX12_isWord 17 = .ok (.ifCond .ne 7, 3) := by decide +kernel
theorem dX12_isWord_20 : decode cX12_isWord 20 = .ok (.iconst 1, 1) := by decide +kernel
theorem dX12_isWord_21 : decode cX12_isWord 21 = .ok (.goto 4, 3) := by decide +kernel
theorem dX12_isWord_24 : decode cX12_isWord 24 = .ok (.iconst 0, 1) := by decide +kernel
theorem dX12_isWord_25 : decode cX12_isWord 25 = .ok (.ireturn, 1) := by decide +kernel
theorem dX12_eatsWord_0 : decode cX12_eatsWord 0 = .ok (.aload_n 0, 1) := by decide +kernel
theorem dX12_eatsWord_1 : decode cX12_eatsWord 1 = .ok (.aload_n 1, 1) := by decide +kernel
theorem dX12_eatsWord_2 : decode cX12_eatsWord 2 = .ok (.invokevirtual 157, 3) := by decide +kernel
theorem dX12_eatsWord_5 : decode cX12_eatsWord 5 = .ok (.istore_n 2, 1) := by decide +kernel
theorem dX12_eatsWord_6 : decode cX12_eatsWord 6 = .ok (.iload_n 2, 1) := by decide +kernel
theorem dX12_eatsWord_7 : decode cX12_eatsWord 7 = .ok (.ifCond .eq 7, 3) := by decide +kernel
theorem dX12_eatsWord_10 : decode cX12_eatsWord 10 = .ok (.aload_n 0, 1) := by decide +kernel
theorem dX12_eatsWord_11 : decode cX12_eatsWord 11 = .ok (.invokevirtual 161, 3) := by decide +kernel
theorem dX12_eatsWord_14 : decode cX12_eatsWord 14 = .ok (.iload_n 2, 1) := by decide +kernel
theorem dX12_eatsWord_15 : decode cX12_eatsWord 15 = .ok (.ireturn, 1) := by decide +kernel
theorem dX12_needs_0 : decode cX12_needs 0 = .ok (.aload_n 0, 1) := by decide +kernel
theorem dX12_needs_1 : decode cX12_needs 1 = .ok (.aload_n 1, 1) := by decide +kernel
theorem dX12_needs_2 : decode cX12_needs 2 = .ok (.invokevirtual 157, 3) := by decide +kernel
theorem dX12_needs_5 : decode cX12_needs 5 = .ok (.ifCond .ne 8, 3) := by decide +kernel
theorem dX12_needs_8 : decode cX12_needs 8 = .ok (.aload_n 0, 1) := by decide +kernel
theorem dX12_needs_9 : decode cX12_needs 9 = .ok (.iconst 1, 1) := by decide +kernel
theorem dX12_needs_10 : decode cX12_needs 10 = .ok (.invokevirtual 164, 3) := by decide +kernel
theorem dX12_needs_13 : decode cX12_needs 13 = .ok (.aload_n 0, 1) := by decide +kernel
theorem dX12_needs_14 : decode cX12_needs 14 = .ok (.invokevirtual 161, 3) := by decide +kernel
theorem dX12_needs_17 : decode cX12_needs 17 = .ok (.return_, 1) := by decide +kernel
theorem dX12_readPart_0 : decode cX12_readPart 0 = .ok (.aload_n 0, 1) := by decide +kernel
theorem dX12_readPart_1 : decode cX12_readPart 1 = .ok (.aload_n 1, 1) := by decide +kernel
theorem dX12_readPart_2 : decode cX12_readPart 2 = .ok (.invokevirtual 172, 3) := by decide +kernel
theorem dX12_readPart_5 : decode cX12_readPart 5 = .ok (.aload_n 0, 1) := by decide +kernel
theorem dX12_readPart_6 : decode cX12_readPart 6 = .ok (.iload_n 2, 1) := by decide +kernel
theorem dX12_readPart_7 : decode cX12_readPart 7 = .ok (.iload_n 3, 1) := by decide +kernel
theorem dX12_readPart_8 : decode cX12_readPart 8 = .ok (.invokevirtual 176, 3) := by decide +kernel
theorem dX12_readPart_11 : decode cX12_readPart 11 = .ok (.istore 4, 2) := by decide +kernel
theorem dX12_readPart_13 : decode cX12_readPart 13 = .ok (.aload_n 0, 1) := by decide +kernel
theorem dX12_readPart_14 : decode cX12_readPart 14 = .ok (.invokevirtual 161, 3) := by decide +kernel
theorem dX12_readPart_17 : decode cX12_readPart 17 = .ok (.iload 4, 2) := by decide +kernel
theorem dX12_readPart_19 : decode cX12_readPart 19 = .ok (.ireturn, 1) := by decide +kernel
theorem dX12_isName_0 : decode cX12_isName 0 = .ok (.aload_n 0, 1) := by decide +kernel
theorem dX12_isName_1 : decode cX12_isName 1 = .ok (.getfield 118, 3) := by decide +kernel
theorem dX12_isName_4 : decode cX12_isName 4 = .ok (.iconst 2, 1) := by decide +kernel
theorem dX12_isName_5 : decode cX12_isName 5 = .ok (.if_icmp .ne 52, 3) := by decide +kernel
theorem dX12_isName_8 : decode cX12_isName 8 = .ok (.aload_n 0, 1) := by decide +kernel
theorem dX12_isName_9 : decode cX12_isName 9 = .ok (.ldc 180, 2) := by decide +kernel
theorem dX12_isName_11 : decode cX12_isName 11 = .ok (.invokevirtual 157, 3) := by decide +kernel
theorem dX12_isName_14 : decode cX12_isName 14 = .ok (.ifCond .ne 43, 3) := by decide +kernel
theorem dX12_isName_17 : decode cX12_isName 17 = .ok (.aload_n 0, 1) := by decide +kernel
theorem dX12_isName_18 : decode cX12_isName 18 = .ok (.ldc 182, 2) := by decide +kernel
theorem dX12_isName_20 : decode cX12_isName 20 = .ok (.invokevirtual 157, 3) := by decide +kernel
theorem dX12_isName_23 : decode cX12_isName 23 = .ok (.ifCond .ne 34, 3) := by decide +kernel
theorem dX12_isName_26 : decode cX12_isName 26 = .ok (.aload_n 0, 1) := by decide +kernel
theorem dX12_isName_27 : decode cX12_isName 27 = .ok (.ldc 184, 2) := by decide +kernel
theorem dX12_isName_29 : decode cX12_isName 29 = .ok (.invokevirtual 157, 3) := by decide +kernel
theorem dX12_isName_32 : decode cX12_isName 32 = .ok (.ifCond .ne 25, 3) := by decide +kernel
theorem dX12_isName_35 : decode cX12_isName 35 = .ok (.aload_n 0, 1) := by decide +kernel
theorem dX12_isName_36 : decode cX12_isName 36 = .ok (.ldc 186, 2) := by decide +kernel
theorem dX12_isName_38 : decode cX12_isName 38 = .ok (.invokevirtual 157, 3) := by decide +kernel
theorem dX12_isName_41 : decode cX12_isName 41 = .ok (.ifCond .ne 16, 3) := by decide +kernel
theorem dX12_isName_44 : decode cX12_isName 44 = .ok (.aload_n 0, 1) := by decide +kernel
theorem dX12_isName_45 : decode cX12_isName 45 = .ok (.ldc 188, 2) := by decide +kernel
theorem dX12_isName_47 : decode cX12_isName 47 = .ok (.invokevirtual 157, 3) := by decide +kernel
theorem dX12_isName_50 : decode cX12_isName 50 = .ok (.ifCond .ne 7, 3) := by decide +kernel
theorem dX12_isName_53 : decode cX12_isName 53 = .ok (.iconst 1, 1) := by decide +kernel
theorem dX12_isName_54 : decode cX12_isName 54 = .ok (.goto 4, 3) := by decide +kernel
theorem dX12_isName_57 : decode cX12_isName 57 = .ok (.iconst 0, 1) := by decide +kernel
theorem dX12_isName_58 : decode cX12_isName 58 = .ok (.ireturn, 1) := by decide +kernel
theorem dX12_readTrick_0 : decode cX12_readTrick 0 = .ok (.aload_n 0, 1) := by decide +kernel
theorem dX12_readTrick_1 : decode cX12_readTrick 1 = .ok (.getfield 190, 3) := by decide +kernel
theorem dX12_readTrick_4 : decode cX12_readTrick 4 = .ok (.getfield 194, 3) := by decide +kernel
theorem dX12_readTrick_7 : decode cX12_readTrick 7 = .ok (.ifCond .le 8, 3) := by decide +kernel
theorem dX12_readTrick_10 : decode cX12_readTrick 10 = .ok (.aload_n 0, 1) := by decide +kernel
theorem dX12_readTrick_11 : decode cX12_readTrick 11 = .ok (.iconst 3, 1) := by decide +kernel
theorem dX12_readTrick_12 : decode cX12_readTrick 12 = .ok (.invokevirtual 164, 3) := by decide +kernel
theorem dX12_readTrick_15 : decode cX12_readTrick 15 = .ok (.aload_n 0, 1) := by decide +kernel
theorem dX12_readTrick_16 : decode cX12_readTrick 16 = .ok (.invokevirtual 161, 3) := by decide +kernel
theorem dX12_readTrick_19 : decode cX12_readTrick 19 = .ok (.aload_n 0, 1) := by decide +kernel
theorem dX12_readTrick_20 : decode cX12_readTrick 20 = .ok (.ldc 213, 2) := by decide +kernel
theorem dX12_readTrick_22 : decode cX12_readTrick 22 = .ok (.iconst 4, 1) := by decide +kernel
theorem dX12_readTrick_23 : decode cX12_readTrick 23 = .ok (.bipush 12, 2) := by decide +kernel
theorem dX12_readTrick_25 : decode cX12_readTrick 25 = .ok (.invokevirtual 214, 3) := by decide +kernel
theorem dX12_readTrick_28 : decode cX12_readTrick 28 = .ok (.istore_n 1, 1) := by decide +kernel
theorem dX12_readTrick_29 : decode cX12_readTrick 29 = .ok (.aload_n 0, 1) := by decide +kernel
theorem dX12_readTrick_30 : decode cX12_readTrick 30 = .ok (.ldc 218, 2) := by decide +kernel
theorem dX12_readTrick_32 : decode cX12_readTrick 32 = .ok (.invokevirtual 172, 3) := by decide +kernel
theorem dX12_readTrick_35 : decode cX12_readTrick 35 = .ok (.aload_n 0, 1) := by decide +kernel
theorem dX12_readTrick_36 : decode cX12_readTrick 36 = .ok (.iconst 1, 1) := by decide +kernel
theorem dX12_readTrick_37 : decode cX12_readTrick 37 = .ok (.iconst 4, 1) := by decide +kernel
theorem dX12_readTrick_38 : decode cX12_readTrick 38 = .ok (.invokevirtual 176, 3) := by decide +kernel
theorem dX12_readTrick_41 : decode cX12_readTrick 41 = .ok (.istore_n 2, 1) := by decide +kernel
theorem dX12_readTrick_42 : decode cX12_readTrick 42 = .ok (.iload_n 1, 1) := by decide +kernel
theorem dX12_readTrick_43 : decode cX12_readTrick 43 = .ok (.iload_n 2, 1) := by decide +kernel
theorem dX12_readTrick_44 : decode cX12_readTrick 44 = .ok (.irem, 1) := by decide +kernel
theorem dX12_readTrick_45 : decode cX12_readTrick 45 = .ok (.ifCond .eq 8, 3) := by decide +kernel
theorem dX12_readTrick_48 : decode cX12_readTrick 48 = .ok (.aload_n 0, 1) := by decide +kernel
theorem dX12_readTrick_49 : decode cX12_readTrick 49 = .ok (.iconst 4, 1) := by decide +kernel
theorem dX12_readTrick_50 : decode cX12_readTrick 50 = .ok (.invokevirtual 164, 3) := by decide +kernel
theorem dX12_readTrick_53 : decode cX12_readTrick 53 = .ok (.aload_n 0, 1) := by decide +kernel
theorem dX12_readTrick_54 : decode cX12_readTrick 54 = .ok (.invokevirtual 161, 3) := by decide +kernel
theorem dX12_readTrick_57 : decode cX12_readTrick 57 = .ok (.aload_n 0, 1) := by decide +kernel
theorem dX12_readTrick_58 : decode cX12_readTrick 58 = .ok (.ldc 220, 2) := by decide +kernel
theorem dX12_readTrick_60 : decode cX12_readTrick 60 = .ok (.iconst 2, 1) := by decide +kernel
theorem dX12_readTrick_61 : decode cX12_readTrick 61 = .ok (.iload_n 1, 1) := by decide +kernel
theorem dX12_readTrick_62 : decode cX12_readTrick 62 = .ok (.iconst 5, 1) := by decide +kernel
theorem dX12_readTrick_63 : decode cX12_readTrick 63 = .ok (.if_icmp .ge 7, 3) := by decide +kernel
theorem dX12_readTrick_66 : decode cX12_readTrick 66 = .ok (.iload_n 1, 1) := by decide +kernel
theorem dX12_readTrick_67 : decode cX12_readTrick 67 = .ok (.goto 4, 3) := by decide +kernel
theorem dX12_readTrick_70 : decode cX12_readTrick 70 = .ok (.iconst 5, 1) := by decide +kernel
theorem dX12_readTrick_71 : decode cX12_readTrick 71 = .ok (.invokevirtual 214, 3) := by decide +kernel
theorem dX12_readTrick_74 : decode cX12_readTrick 74 = .ok (.istore_n 3, 1) := by decide +kernel
theorem dX12_readTrick_75 : decode cX12_readTrick 75 = .ok (.aload_n 0, 1) := by decide +kernel
theorem dX12_readTrick_76 : decode cX12_readTrick 76 = .ok (.ldc 222, 2) := by decide +kernel
theorem dX12_readTrick_78 : decode cX12_readTrick 78 = .ok (.iconst 1, 1) := by decide +kernel
theorem dX12_readTrick_79 : decode cX12_readTrick 79 = .ok (.iload_n 3, 1) := by decide +kernel
theorem dX12_readTrick_80 : decode cX12_readTrick 80 = .ok (.iconst 2, 1) := by decide +kernel
theorem dX12_readTrick_81 : decode cX12_readTrick 81 = .ok (.if_icmp .le 7, 3) := by decide +kernel
theorem dX12_readTrick_84 : decode cX12_readTrick 84 = .ok (.iconst 2, 1) := by decide +kernel
theorem dX12_readTrick_85 : decode cX12_readTrick 85 = .ok (.goto 4, 3) := by decide +kernel
theorem dX12_readTrick_88 : decode cX12_readTrick 88 = .ok (.iconst 1, 1) := by decide +kernel
theorem dX12_readTrick_89 : decode cX12_readTrick 89 = .ok (.invokevirtual 214, 3) := by decide +kernel
theorem dX12_readTrick_92 : decode cX12_readTrick 92 = .ok (.istore 4, 2) := by decide +kernel
theorem dX12_readTrick_94 : decode cX12_readTrick 94 = .ok (.aload_n 0, 1) := by decide +kernel
theorem dX12_readTrick_95 : decode cX12_readTrick 95 = .ok (.ldc 224, 2) := by decide +kernel
theorem dX12_readTrick_97 : decode cX12_readTrick 97 = .ok (.invokevirtual 157, 3) := by decide +kernel
theorem dX12_readTrick_100 : decode cX12_readTrick 100 = .ok (.ifCond .ne 17, 3) := by decide +kernel
theorem dX12_readTrick_103 : decode cX12_readTrick 103 = .ok (.aload_n 0, 1) := by decide +kernel
theorem dX12_readTrick_104 : decode cX12_readTrick 104 = .ok (.ldc 226, 2) := by decide +kernel
theorem dX12_readTrick_106 : decode cX12_readTrick 106 = .ok (.invokevirtual 157, 3) := by decide +kernel
theorem dX12_readTrick_109 : decode cX12_readTrick 109 = .ok (.ifCond .ne 8, 3) := by decide +kernel
theorem dX12_readTrick_112 : decode cX12_readTrick 112 = .ok (.aload_n 0, 1) := by decide +kernel
theorem dX12_readTrick_113 : decode cX12_readTrick 113 = .ok (.iconst 1, 1) := by decide +kernel
theorem dX12_readTrick_114 : decode cX12_readTrick 114 = .ok (.invokevirtual 164, 3) := by decide +kernel
theorem dX12_readTrick_117 : decode cX12_readTrick 117 = .ok (.aload_n 0, 1) := by decide +kernel
theorem dX12_readTrick_118 : decode cX12_readTrick 118 = .ok (.getfield 190, 3) := by decide +kernel
theorem dX12_readTrick_121 : decode cX12_readTrick 121 = .ok (.aload_n 0, 1) := by decide +kernel
theorem dX12_readTrick_122 : decode cX12_readTrick 122 = .ok (.ldc 226, 2) := by decide +kernel
theorem dX12_readTrick_124 : decode cX12_readTrick 124 = .ok (.invokevirtual 157, 3) := by decide +kernel
theorem dX12_readTrick_127 : decode cX12_readTrick 127 = .ok (.putfield 228, 3) := by decide +kernel
theorem dX12_readTrick_130 : decode cX12_readTrick 130 = .ok (.aload_n 0, 1) := by decide +kernel
theorem dX12_readTrick_131 : decode cX12_readTrick 131 = .ok (.getfield 190, 3) := by decide +kernel
theorem dX12_readTrick_134 : decode cX12_readTrick 134 = .ok (.iload_n 3, 1) := by decide +kernel
theorem dX12_readTrick_135 : decode cX12_readTrick 135 = .ok (.putfield 232, 3) := by decide +kernel
theorem dX12_readTrick_138 : decode cX12_readTrick 138 = .ok (.aload_n 0, 1) := by decide +kernel
theorem dX12_readTrick_139 : decode cX12_readTrick 139 = .ok (.getfield 118, 3) := by decide +kernel
theorem dX12_readTrick_142 : decode cX12_readTrick 142 = .ok (.iconst 5, 1) := by decide +kernel
theorem dX12_readTrick_143 : decode cX12_readTrick 143 = .ok (.if_icmp .eq 24, 3) := by decide +kernel
theorem dX12_readTrick_146 : decode cX12_readTrick 146 = .ok (.aload_n 0, 1) := by decide +kernel
theorem dX12_readTrick_147 : decode cX12_readTrick 147 = .ok (.getfield 190, 3) := by decide +kernel
theorem dX12_readTrick_150 : decode cX12_readTrick 150 = .ok (.iload_n 1, 1) := by decide +kernel
theorem dX12_readTrick_151 : decode cX12_readTrick 151 = .ok (.invokevirtual 234, 3) := by decide +kernel
theorem dX12_readTrick_154 : decode cX12_readTrick 154 = .ok (.ldc2_w 238, 3) := by decide +kernel
theorem dX12_readTrick_157 : decode cX12_readTrick 157 = .ok (.lcmp, 1) := by decide +kernel
theorem dX12_readTrick_158 : decode cX12_readTrick 158 = .ok (.ifCond .le 9, 3) := by decide +kernel
theorem dX12_readTrick_161 : decode cX12_readTrick 161 = .ok (.aload_n 0, 1) := by decide +kernel
theorem dX12_readTrick_162 : decode cX12_readTrick 162 = .ok (.bipush 7, 2) := by decide +kernel
theorem dX12_readTrick_164 : decode cX12_readTrick 164 = .ok (.invokevirtual 164, 3) := by decide +kernel
theorem dX12_readTrick_167 : decode cX12_readTrick 167 = .ok (.aload_n 0, 1) := by decide +kernel
theorem dX12_readTrick_168 : decode cX12_readTrick 168 = .ok (.invokevirtual 161, 3) := by decide +kernel
theorem dX12_readTrick_171 : decode cX12_readTrick 171 = .ok (.aload_n 0, 1) := by decide +kernel
theorem dX12_readTrick_172 : decode cX12_readTrick 172 = .ok (.getfield 190, 3) := by decide +kernel
theorem dX12_readTrick_175 : decode cX12_readTrick 175 = .ok (.aload_n 0, 1) := by decide +kernel
theorem dX12_readTrick_176 : decode cX12_readTrick 176 = .ok (.getfield 190, 3) := by decide +kernel
theorem dX12_readTrick_179 : decode cX12_readTrick 179 = .ok (.getfield 228, 3) := by decide +kernel
theorem dX12_readTrick_182 : decode cX12_readTrick 182 = .ok (.ifCond .ne 16, 3) := by decide +kernel
theorem dX12_readTrick_185 : decode cX12_readTrick 185 = .ok (.aload_n 0, 1) := by decide +kernel
theorem dX12_readTrick_186 : decode cX12_readTrick 186 = .ok (.ldc 240, 2) := by decide +kernel
theorem dX12_readTrick_188 : decode cX12_readTrick 188 = .ok (.invokevirtual 242, 3) := by decide +kernel
theorem dX12_readTrick_191 : decode cX12_readTrick 191 = .ok (.ifCond .eq 7, 3) := by decide +kernel
theorem dX12_readTrick_194 : decode cX12_readTrick 194 = .ok (.iconst 1, 1) := by decide +kernel
theorem dX12_readTrick_195 : decode cX12_readTrick 195 = .ok (.goto 4, 3) := by decide +kernel
theorem dX12_readTrick_198 : decode cX12_readTrick 198 = .ok (.iconst 0, 1) := by decide +kernel
theorem dX12_readTrick_199 : decode cX12_readTrick 199 = .ok (.putfield 245, 3) := by decide +kernel
theorem dX12_readTrick_202 : decode cX12_readTrick 202 = .ok (.aload_n 0, 1) := by decide +kernel
theorem dX12_readTrick_203 : decode cX12_readTrick 203 = .ok (.getfield 190, 3) := by decide +kernel
theorem dX12_readTrick_206 : decode cX12_readTrick 206 = .ok (.aload_n 0, 1) := by decide +kernel
theorem dX12_readTrick_207 : decode cX12_readTrick 207 = .ok (.ldc 248, 2) := by decide +kernel
theorem dX12_readTrick_209 : decode cX12_readTrick 209 = .ok (.invokevirtual 242, 3) := by decide +kernel
theorem dX12_readTrick_212 : decode cX12_readTrick 212 = .ok (.putfield 250, 3) := by decide +kernel
theorem dX12_readTrick_215 : decode cX12_readTrick 215 = .ok (.aload_n 0, 1) := by decide +kernel
theorem dX12_readTrick_216 : decode cX12_readTrick 216 = .ok (.getfield 118, 3) := by decide +kernel
theorem dX12_readTrick_219 : decode cX12_readTrick 219 = .ok (.iconst 5, 1) := by decide +kernel
theorem dX12_readTrick_220 : decode cX12_readTrick 220 = .ok (.if_icmp .ne 4, 3) := by decide +kernel
theorem dX12_readTrick_223 : decode cX12_readTrick 223 = .ok (.return_, 1) := by decide +kernel
theorem dX12_readTrick_224 : decode cX12_readTrick 224 = .ok (.aload_n 0, 1) := by decide +kernel
theorem dX12_readTrick_225 : decode cX12_readTrick 225 = .ok (.getfield 190, 3) := by decide +kernel
theorem dX12_readTrick_228 : decode cX12_readTrick 228 = .ok (.iload_n 1, 1) := by decide +kernel
theorem dX12_readTrick_229 : decode cX12_readTrick 229 = .ok (.putfield 194, 3) := by decide +kernel
theorem dX12_readTrick_232 : decode cX12_readTrick 232 = .ok (.aload_n 0, 1) := by decide +kernel
theorem dX12_readTrick_233 : decode cX12_readTrick 233 = .ok (.getfield 190, 3) := by decide +kernel
theorem dX12_readTrick_236 : decode cX12_readTrick 236 = .ok (.iload_n 2, 1) := by decide +kernel
theorem dX12_readTrick_237 : decode cX12_readTrick 237 = .ok (.putfield 253, 3) := by decide +kernel
theorem dX12_readTrick_240 : decode cX12_readTrick 240 = .ok (.aload_n 0, 1) := by decide +kernel
theorem dX12_readTrick_241 : decode cX12_readTrick 241 = .ok (.getfield 190, 3) := by decide +kernel
theorem dX12_readTrick_244 : decode cX12_readTrick 244 = .ok (.iload 4, 2) := by decide +kernel
theorem dX12_readTrick_246 : decode cX12_readTrick 246 = .ok (.putfield 255, 3) := by decide +kernel
theorem dX12_readTrick_249 : decode cX12_readTrick 249 = .ok (.aload_n 0, 1) := by decide +kernel
theorem dX12_readTrick_250 : decode cX12_readTrick 250 = .ok (.getfield 190, 3) := by decide +kernel
theorem dX12_readTrick_253 : decode cX12_readTrick 253 = .ok (.iload_n 3, 1) := by decide +kernel
theorem dX12_readTrick_254 : decode cX12_readTrick 254 = .ok (.iload 4, 2) := by decide +kernel
theorem dX12_readTrick_256 : decode cX12_readTrick 256 = .ok (.isub, 1) := by decide +kernel
theorem dX12_readTrick_257 : decode cX12_readTrick 257 = .ok (.putfield 257, 3) := by decide +kernel
theorem dX12_readTrick_260 : decode cX12_readTrick 260 = .ok (.return_, 1) := by decide +kernel
theorem dX12_readWords_0 : decode cX12_readWords 0 = .ok (.aload_n 0, 1) := by decide +kernel
theorem dX12_readWords_1 : decode cX12_readWords 1 = .ok (.ldc_w 285, 3) := by decide +kernel
theorem dX12_readWords_4 : decode cX12_readWords 4 = .ok (.invokevirtual 242, 3) := by decide +kernel
theorem dX12_readWords_7 : decode cX12_readWords 7 = .ok (.ifCond .eq 7, 3) := by decide +kernel
theorem dX12_readWords_10 : decode cX12_readWords 10 = .ok (.iconst 0, 1) := by decide +kernel
theorem dX12_readWords_11 : decode cX12_readWords 11 = .ok (.goto 46, 3) := by decide +kernel
theorem dX12_readWords_14 : decode cX12_readWords 14 = .ok (.aload_n 0, 1) := by decide +kernel
theorem dX12_readWords_15 : decode cX12_readWords 15 = .ok (.ldc_w 287, 3) := by decide +kernel
theorem dX12_readWords_18 : decode cX12_readWords 18 = .ok (.invokevirtual 242, 3) := by decide +kernel
theorem dX12_readWords_21 : decode cX12_readWords 21 = .ok (.ifCond .eq 7, 3) := by decide +kernel
theorem dX12_readWords_24 : decode cX12_readWords 24 = .ok (.iconst 1, 1) := by decide +kernel
theorem dX12_readWords_25 : decode cX12_readWords 25 = .ok (.goto 32, 3) := by decide +kernel
theorem dX12_readWords_28 : decode cX12_readWords 28 = .ok (.aload_n 0, 1) := by decide +kernel
theorem dX12_readWords_29 : decode cX12_readWords 29 = .ok (.ldc_w 289, 3) := by decide +kernel
theorem dX12_readWords_32 : decode cX12_readWords 32 = .ok (.invokevirtual 242, 3) := by decide +kernel
theorem dX12_readWords_35 : decode cX12_readWords 35 = .ok (.ifCond .eq 7, 3) := by decide +kernel
theorem dX12_readWords_38 : decode cX12_readWords 38 = .ok (.iconst 2, 1) := by decide +kernel
theorem dX12_readWords_39 : decode cX12_readWords 39 = .ok (.goto 18, 3) := by decide +kernel
theorem dX12_readWords_42 : decode cX12_readWords 42 = .ok (.aload_n 0, 1) := by decide +kernel
theorem dX12_readWords_43 : decode cX12_readWords 43 = .ok (.ldc_w 291, 3) := by decide +kernel
theorem dX12_readWords_46 : decode cX12_readWords 46 = .ok (.invokevirtual 242, 3) := by decide +kernel
theorem dX12_readWords_49 : decode cX12_readWords 49 = .ok (.ifCond .eq 7, 3) := by decide +kernel
theorem dX12_readWords_52 : decode cX12_readWords 52 = .ok (.iconst 3, 1) := by decide +kernel
theorem dX12_readWords_53 : decode cX12_readWords 53 = .ok (.goto 4, 3) := by decide +kernel
theorem dX12_readWords_56 : decode cX12_readWords 56 = .ok (.iconst (-1), 1) := by decide +kernel
theorem dX12_readWords_57 : decode cX12_readWords 57 = .ok (.istore_n 1, 1) := by decide +kernel
theorem dX12_readWords_58 : decode cX12_readWords 58 = .ok (.iload_n 1, 1) := by decide +kernel
theorem dX12_readWords_59 : decode cX12_readWords 59 = .ok (.iconst (-1), 1) := by decide +kernel
theorem dX12_readWords_60 : decode cX12_readWords 60 = .ok (.if_icmp .ne 8, 3) := by decide +kernel
theorem dX12_readWords_63 : decode cX12_readWords 63 = .ok (.aload_n 0, 1) := by decide +kernel
theorem dX12_readWords_64 : decode cX12_readWords 64 = .ok (.iconst 1, 1) := by decide +kernel
theorem dX12_readWords_65 : decode cX12_readWords 65 = .ok (.invokevirtual 164, 3) := by decide +kernel
theorem dX12_readWords_68 : decode cX12_readWords 68 = .ok (.aload_n 0, 1) := by decide +kernel
theorem dX12_readWords_69 : decode cX12_readWords 69 = .ok (.ldc_w 293, 3) := by decide +kernel
theorem dX12_readWords_72 : decode cX12_readWords 72 = .ok (.invokevirtual 172, 3) := by decide +kernel
theorem dX12_readWords_75 : decode cX12_readWords 75 = .ok (.aload_n 0, 1) := by decide +kernel
theorem dX12_readWords_76 : decode cX12_readWords 76 = .ok (.ldc_w 295, 3) := by decide +kernel
theorem dX12_readWords_79 : decode cX12_readWords 79 = .ok (.invokevirtual 242, 3) := by decide +kernel
theorem dX12_readWords_82 : decode cX12_readWords 82 = .ok (.ifCond .eq 7, 3) := by decide +kernel
theorem dX12_readWords_85 : decode cX12_readWords 85 = .ok (.iconst 0, 1) := by decide +kernel
theorem dX12_readWords_86 : decode cX12_readWords 86 = .ok (.goto 60, 3) := by decide +kernel
theorem dX12_readWords_89 : decode cX12_readWords 89 = .ok (.aload_n 0, 1) := by decide +kernel
theorem dX12_readWords_90 : decode cX12_readWords 90 = .ok (.ldc_w 296, 3) := by decide +kernel
theorem dX12_readWords_93 : decode cX12_readWords 93 = .ok (.invokevirtual 242, 3) := by decide +kernel
theorem dX12_readWords_96 : decode cX12_readWords 96 = .ok (.ifCond .eq 7, 3) := by decide +kernel
theorem dX12_readWords_99 : decode cX12_readWords 99 = .ok (.iconst 1, 1) := by decide +kernel
theorem dX12_readWords_100 : decode cX12_readWords 100 = .ok (.goto 46, 3) := by decide +kernel
theorem dX12_readWords_103 : decode cX12_readWords 103 = .ok (.aload_n 0, 1) := by decide +kernel
theorem dX12_readWords_104 : decode cX12_readWords 104 = .ok (.ldc_w 298, 3) := by decide +kernel
theorem dX12_readWords_107 : decode cX12_readWords 107 = .ok (.invokevirtual 242, 3) := by decide +kernel
theorem dX12_readWords_110 : decode cX12_readWords 110 = .ok (.ifCond .eq 7, 3) := by decide +kernel
theorem dX12_readWords_113 : decode cX12_readWords 113 = .ok (.iconst 2, 1) := by decide +kernel
theorem dX12_readWords_114 : decode cX12_readWords 114 = .ok (.goto 32, 3) := by decide +kernel
theorem dX12_readWords_117 : decode cX12_readWords 117 = .ok (.aload_n 0, 1) := by decide +kernel
theorem dX12_readWords_118 : decode cX12_readWords 118 = .ok (.ldc_w 300, 3) := by decide +kernel
theorem dX12_readWords_121 : decode cX12_readWords 121 = .ok (.invokevirtual 242, 3) := by decide +kernel
theorem dX12_readWords_124 : decode cX12_readWords 124 = .ok (.ifCond .eq 7, 3) := by decide +kernel
theorem dX12_readWords_127 : decode cX12_readWords 127 = .ok (.iconst 3, 1) := by decide +kernel
theorem dX12_readWords_128 : decode cX12_readWords 128 = .ok (.goto 18, 3) := by decide +kernel
theorem dX12_readWords_131 : decode cX12_readWords 131 = .ok (.aload_n 0, 1) := by decide +kernel
theorem dX12_readWords_132 : decode cX12_readWords 132 = .ok (.ldc_w 291, 3) := by decide +kernel
theorem dX12_readWords_135 : decode cX12_readWords 135 = .ok (.invokevirtual 242, 3) := by decide +kernel
theorem dX12_readWords_138 : decode cX12_readWords 138 = .ok (.ifCond .eq 7, 3) := by decide +kernel
theorem dX12_readWords_141 : decode cX12_readWords 141 = .ok (.iconst 4, 1) := by decide +kernel
theorem dX12_readWords_142 : decode cX12_readWords 142 = .ok (.goto 4, 3) := by decide +kernel
theorem dX12_readWords_145 : decode cX12_readWords 145 = .ok (.iconst (-1), 1) := by decide +kernel
theorem dX12_readWords_146 : decode cX12_readWords 146 = .ok (.istore_n 2, 1) := by decide +kernel
theorem dX12_readWords_147 : decode cX12_readWords 147 = .ok (.iload_n 2, 1) := by decide +kernel
theorem dX12_readWords_148 : decode cX12_readWords 148 = .ok (.iconst (-1), 1) := by decide +kernel
theorem dX12_readWords_149 : decode cX12_readWords 149 = .ok (.if_icmp .ne 8, 3) := by decide +kernel
theorem dX12_readWords_152 : decode cX12_readWords 152 = .ok (.aload_n 0, 1) := by decide +kernel
theorem dX12_readWords_153 : decode cX12_readWords 153 = .ok (.iconst 1, 1) := by decide +kernel
theorem dX12_readWords_154 : decode cX12_readWords 154 = .ok (.invokevirtual 164, 3) := by decide +kernel
theorem dX12_readWords_157 : decode cX12_readWords 157 = .ok (.iconst 5, 1) := by decide +kernel
theorem dX12_readWords_158 : decode cX12_readWords 158 = .ok (.iload_n 1, 1) := by decide +kernel
theorem dX12_readWords_159 : decode cX12_readWords 159 = .ok (.imul, 1) := by decide +kernel
theorem dX12_readWords_160 : decode cX12_readWords 160 = .ok (.iload_n 2, 1) := by decide +kernel
theorem dX12_readWords_161 : decode cX12_readWords 161 = .ok (.iadd, 1) := by decide +kernel
theorem dX12_readWords_162 : decode cX12_readWords 162 = .ok (.ireturn, 1) := by decide +kernel
theorem dX12_readRule_0 : decode cX12_readRule 0 = .ok (.aload_n 0, 1) := by decide +kernel
theorem dX12_readRule_1 : decode cX12_readRule 1 = .ok (.aload_n 0, 1) := by decide +kernel
theorem dX12_readRule_2 : decode cX12_readRule 2 = .ok (.getfield 190, 3) := by decide +kernel
theorem dX12_readRule_5 : decode cX12_readRule 5 = .ok (.getfield 259, 3) := by decide +kernel
theorem dX12_readRule_8 : decode cX12_readRule 8 = .ok (.iconst 4, 1) := by decide +kernel
theorem dX12_readRule_9 : decode cX12_readRule 9 = .ok (.invokevirtual 262, 3) := by decide +kernel
theorem dX12_readRule_12 : decode cX12_readRule 12 = .ok (.aload_n 0, 1) := by decide +kernel
theorem dX12_readRule_13 : decode cX12_readRule 13 = .ok (.invokevirtual 266, 3) := by decide +kernel
theorem dX12_readRule_16 : decode cX12_readRule 16 = .ok (.ifCond .ne 8, 3) := by decide +kernel
theorem dX12_readRule_19 : decode cX12_readRule 19 = .ok (.aload_n 0, 1) := by decide +kernel
theorem dX12_readRule_20 : decode cX12_readRule 20 = .ok (.iconst 1, 1) := by decide +kernel
theorem dX12_readRule_21 : decode cX12_readRule 21 = .ok (.invokevirtual 164, 3) := by decide +kernel
theorem dX12_readRule_24 : decode cX12_readRule 24 = .ok (.iconst 0, 1) := by decide +kernel
theorem dX12_readRule_25 : decode cX12_readRule 25 = .ok (.istore_n 1, 1) := by decide +kernel
theorem dX12_readRule_26 : decode cX12_readRule 26 = .ok (.iload_n 1, 1) := by decide +kernel
theorem dX12_readRule_27 : decode cX12_readRule 27 = .ok (.aload_n 0, 1) := by decide +kernel
theorem dX12_readRule_28 : decode cX12_readRule 28 = .ok (.getfield 190, 3) := by decide +kernel
theorem dX12_readRule_31 : decode cX12_readRule 31 = .ok (.getfield 259, 3) := by decide +kernel
theorem dX12_readRule_34 : decode cX12_readRule 34 = .ok (.if_icmp .ge 39, 3) := by decide +kernel
theorem dX12_readRule_37 : decode cX12_readRule 37 = .ok (.aload_n 0, 1) := by decide +kernel
theorem dX12_readRule_38 : decode cX12_readRule 38 = .ok (.getfield 118, 3) := by decide +kernel
theorem dX12_readRule_41 : decode cX12_readRule 41 = .ok (.iconst 5, 1) := by decide +kernel
theorem dX12_readRule_42 : decode cX12_readRule 42 = .ok (.if_icmp .eq 25, 3) := by decide +kernel
theorem dX12_readRule_45 : decode cX12_readRule 45 = .ok (.aload_n 0, 1) := by decide +kernel
theorem dX12_readRule_46 : decode cX12_readRule 46 = .ok (.getfield 190, 3) := by decide +kernel
theorem dX12_readRule_49 : decode cX12_readRule 49 = .ok (.getfield 270, 3) := by decide +kernel
theorem dX12_readRule_52 : decode cX12_readRule 52 = .ok (.iload_n 1, 1) := by decide +kernel
theorem dX12_readRule_53 : decode cX12_readRule 53 = .ok (.laload, 1) := by decide +kernel
theorem dX12_readRule_54 : decode cX12_readRule 54 = .ok (.aload_n 0, 1) := by decide +kernel
theorem dX12_readRule_55 : decode cX12_readRule 55 = .ok (.getfield 137, 3) := by decide +kernel
theorem dX12_readRule_58 : decode cX12_readRule 58 = .ok (.lcmp, 1) := by decide +kernel
theorem dX12_readRule_59 : decode cX12_readRule 59 = .ok (.ifCond .ne 8, 3) := by decide +kernel
theorem dX12_readRule_62 : decode cX12_readRule 62 = .ok (.aload_n 0, 1) := by decide +kernel
theorem dX12_readRule_63 : decode cX12_readRule 63 = .ok (.iconst 3, 1) := by decide +kernel
theorem dX12_readRule_64 : decode cX12_readRule 64 = .ok (.invokevirtual 164, 3) := by decide +kernel
theorem dX12_readRule_67 : decode cX12_readRule 67 = .ok (.iinc 1 1, 3) := by decide +kernel
theorem dX12_readRule_70 : decode cX12_readRule 70 = .ok (.goto (-44), 3) := by decide +kernel
theorem dX12_readRule_73 : decode cX12_readRule 73 = .ok (.aload_n 0, 1) := by decide +kernel
theorem dX12_readRule_74 : decode cX12_readRule 74 = .ok (.getfield 137, 3) := by decide +kernel
theorem dX12_readRule_77 : decode cX12_readRule 77 = .ok (.lstore_n 1, 1) := by decide +kernel
theorem dX12_readRule_78 : decode cX12_readRule 78 = .ok (.aload_n 0, 1) := by decide +kernel
theorem dX12_readRule_79 : decode cX12_readRule 79 = .ok (.invokevirtual 161, 3) := by decide +kernel
theorem dX12_readRule_82 : decode cX12_readRule 82 = .ok (.aload_n 0, 1) := by decide +kernel
theorem dX12_readRule_83 : decode cX12_readRule 83 = .ok (.ldc_w 274, 3) := by decide +kernel
theorem dX12_readRule_86 : decode cX12_readRule 86 = .ok (.invokevirtual 242, 3) := by decide +kernel
theorem dX12_readRule_89 : decode cX12_readRule 89 = .ok (.ifCond .eq 8, 3) := by decide +kernel
theorem dX12_readRule_92 : decode cX12_readRule 92 = .ok (.bipush 20, 2) := by decide +kernel
theorem dX12_readRule_94 : decode cX12_readRule 94 = .ok (.goto 36, 3) := by decide +kernel
theorem dX12_readRule_97 : decode cX12_readRule 97 = .ok (.aload_n 0, 1) := by decide +kernel
theorem dX12_readRule_98 : decode cX12_readRule 98 = .ok (.ldc_w 276, 3) := by decide +kernel
theorem dX12_readRule_101 : decode cX12_readRule 101 = .ok (.invokevirtual 242, 3) := by decide +kernel
theorem dX12_readRule_104 : decode cX12_readRule 104 = .ok (.ifCond .eq 8, 3) := by decide +kernel
theorem dX12_readRule_107 : decode cX12_readRule 107 = .ok (.bipush 21, 2) := by decide +kernel
theorem dX12_readRule_109 : decode cX12_readRule 109 = .ok (.goto 21, 3) := by decide +kernel
theorem dX12_readRule_112 : decode cX12_readRule 112 = .ok (.aload_n 0, 1) := by decide +kernel
theorem dX12_readRule_113 : decode cX12_readRule 113 = .ok (.ldc_w 278, 3) := by decide +kernel
theorem dX12_readRule_116 : decode cX12_readRule 116 = .ok (.invokevirtual 242, 3) := by decide +kernel
theorem dX12_readRule_119 : decode cX12_readRule 119 = .ok (.ifCond .eq 10, 3) := by decide +kernel
theorem dX12_readRule_122 : decode cX12_readRule 122 = .ok (.aload_n 0, 1) := by decide +kernel
theorem dX12_readRule_123 : decode cX12_readRule 123 = .ok (.invokevirtual 280, 3) := by decide +kernel
theorem dX12_readRule_126 : decode cX12_readRule 126 = .ok (.goto 4, 3) := by decide +kernel
theorem dX12_readRule_129 : decode cX12_readRule 129 = .ok (.iconst (-1), 1) := by decide +kernel
theorem dX12_readRule_130 : decode cX12_readRule 130 = .ok (.istore_n 3, 1) := by decide +kernel
theorem dX12_readRule_131 : decode cX12_readRule 131 = .ok (.iload_n 3, 1) := by decide +kernel
theorem dX12_readRule_132 : decode cX12_readRule 132 = .ok (.iconst (-1), 1) := by decide +kernel
theorem dX12_readRule_133 : decode cX12_readRule 133 = .ok (.if_icmp .ne 8, 3) := by decide +kernel
theorem dX12_readRule_136 : decode cX12_readRule 136 = .ok (.aload_n 0, 1) := by decide +kernel
theorem dX12_readRule_137 : decode cX12_readRule 137 = .ok (.iconst 1, 1) := by decide +kernel
theorem dX12_readRule_138 : decode cX12_readRule 138 = .ok (.invokevirtual 164, 3) := by decide +kernel
theorem dX12_readRule_141 : decode cX12_readRule 141 = .ok (.aload_n 0, 1) := by decide +kernel
theorem dX12_readRule_142 : decode cX12_readRule 142 = .ok (.getfield 118, 3) := by decide +kernel
theorem dX12_readRule_145 : decode cX12_readRule 145 = .ok (.iconst 5, 1) := by decide +kernel
theorem dX12_readRule_146 : decode cX12_readRule 146 = .ok (.if_icmp .ne 4, 3) := by decide +kernel
theorem dX12_readRule_149 : decode cX12_readRule 149 = .ok (.return_, 1) := by decide +kernel
theorem dX12_readRule_150 : decode cX12_readRule 150 = .ok (.aload_n 0, 1) := by decide +kernel
theorem dX12_readRule_151 : decode cX12_readRule 151 = .ok (.getfield 190, 3) := by decide +kernel
theorem dX12_readRule_154 : decode cX12_readRule 154 = .ok (.getfield 270, 3) := by decide +kernel
theorem dX12_readRule_157 : decode cX12_readRule 157 = .ok (.aload_n 0, 1) := by decide +kernel
theorem dX12_readRule_158 : decode cX12_readRule 158 = .ok (.getfield 190, 3) := by decide +kernel
theorem dX12_readRule_161 : decode cX12_readRule 161 = .ok (.getfield 259, 3) := by decide +kernel
theorem dX12_readRule_164 : decode cX12_readRule 164 = .ok (.lload_n 1, 1) := by decide +kernel
theorem dX12_readRule_165 : decode cX12_readRule 165 = .ok (.lastore, 1) := by decide +kernel
theorem dX12_readRule_166 : decode cX12_readRule 166 = .ok (.aload_n 0, 1) := by decide +kernel
theorem dX12_readRule_167 : decode cX12_readRule 167 = .ok (.getfield 190, 3) := by decide +kernel
theorem dX12_readRule_170 : decode cX12_readRule 170 = .ok (.getfield 283, 3) := by decide +kernel
theorem dX12_readRule_173 : decode cX12_readRule 173 = .ok (.aload_n 0, 1) := by decide +kernel
theorem dX12_readRule_174 : decode cX12_readRule 174 = .ok (.getfield 190, 3) := by decide +kernel
theorem dX12_readRule_177 : decode cX12_readRule 177 = .ok (.getfield 259, 3) := by decide +kernel
theorem dX12_readRule_180 : decode cX12_readRule 180 = .ok (.iload_n 3, 1) := by decide +kernel
theorem dX12_readRule_181 : decode cX12_readRule 181 = .ok (.iastore, 1) := by decide +kernel
theorem dX12_readRule_182 : decode cX12_readRule 182 = .ok (.aload_n 0, 1) := by decide +kernel
theorem dX12_readRule_183 : decode cX12_readRule 183 = .ok (.getfield 190, 3) := by decide +kernel
theorem dX12_readRule_186 : decode cX12_readRule 186 = .ok (.dup, 1) := by decide +kernel
theorem dX12_readRule_187 : decode cX12_readRule 187 = .ok (.getfield 259, 3) := by decide +kernel
theorem dX12_readRule_190 : decode cX12_readRule 190 = .ok (.iconst 1, 1) := by decide +kernel
theorem dX12_readRule_191 : decode cX12_readRule 191 = .ok (.iadd, 1) := by decide +kernel
theorem dX12_readRule_192 : decode cX12_readRule 192 = .ok (.putfield 259, 3) := by decide +kernel
theorem dX12_readRule_195 : decode cX12_readRule 195 = .ok (.return_, 1) := by decide +kernel
set_option maxHeartbeats 4000000 in
set_option maxRecDepth 100000 in
theorem sX12_wordOf {l : Launch} {D : va_G} {cA : Nat → ClassId} {base : Nat} {sA : Nat → Nat} {s0 : Nat} {h hE : Zh} {rE : Int64} (hf : fX12_wordOf s0 h = some (rE, hE)) : zC l yX12_wordOf cX12_wordOf 4 (some .long) 4 85 D cA base sA [.ref (sA s0)] h (some (.long rE)) hE := by
  refine g_entry RX12 (by decide) rfl (Nat.le_of_ble_eq_true rfl) ?_
  intro p e s m args below meth c X hr
  unfold fX12_wordOf at hf
  have hf := zlet_n (x := h) rfl hf
  show zG p l e { frames := 4, cells := 0, slots := 0, locals := 85 } s m args below meth c (MQ below (zQ D cA base h hE (some (.long rE))) args s 0 0 (zA base)) 4 D cA base h 0 [(0, .ref (sA s0))] [] h
  refine g_lconst X (v := 0) dX12_wordOf_0 (by decide) ?_
  refine g_lstore_n X [(1, .long ((0 : Int64))), (0, .ref (sA s0))] dX12_wordOf_1 (by decide) rfl ?_
  refine g_iconst X (v := 0) dX12_wordOf_2 (by decide) ?_
  refine g_istore_n X [(3, .int ((0 : Int32))), (1, .long ((0 : Int64))), (0, .ref (sA s0))] dX12_wordOf_3 (by decide) rfl ?_
  refine g_sub [2, 1, 0] rfl ?_
  obtain ⟨qq, hlp, hf⟩ := zbd hf
  refine lp_snd (body := (fun q : Int64 × Int32 × Zh => bX12_wordOf_4 h s0 q.1 q.2.1 q.2.2)) (P := (fun q : Int64 × Int32 × Zh => zG p l e { frames := 4, cells := 0, slots := 0, locals := 85 } s m args below meth c (MQ below (zQ D cA base h hE (some (.long rE))) args s 0 0 (zA base)) 4 D cA base h 4 [(0, .ref (sA s0)), (1, .long q.1), (3, .int q.2.1)] [] q.2.2)) (E := (fun (en : Nat) (q : Int64 × Int32 × Zh) => zG p l e { frames := 4, cells := 0, slots := 0, locals := 85 } s m args below meth c (MQ below (zQ D cA base h hE (some (.long rE))) args s 0 0 (zA base)) 4 D cA base h 36 [(1, .long q.1)] [] q.2.2)) ?_ zB ((0 : Int64), ((0 : Int32), h)) qq.1 qq.2 hlp ?_
  · intro q e_4 q_4 hf hc0 hc1
    obtain ⟨j1_4, x3_4, h_4⟩ := q
    have hf : bX12_wordOf_4 h s0 j1_4 x3_4 h_4 = some (e_4, q_4) := hf
    unfold bX12_wordOf_4 at hf
    show zG p l e { frames := 4, cells := 0, slots := 0, locals := 85 } s m args below meth c (MQ below (zQ D cA base h hE (some (.long rE))) args s 0 0 (zA base)) 4 D cA base h 4 [(0, .ref (sA s0)), (1, .long j1_4), (3, .int x3_4)] [] h_4
    refine g_iload_n X 2 dX12_wordOf_4 rfl ?_
    refine g_aload_n X 0 dX12_wordOf_5 rfl ?_
    obtain ⟨v2, h1, hch1, hf⟩ := zc2_e hf
    refine g_callK X 0 (zite hch1).1 (sJ0_length_8abf5 hch1) ydJ0_length_8abf5 w_ml_RX12_106 w_instanceMethod_J0_length_8abf5 w_sel_J0_length_8abf5 w_ini_RJ0 w_code_J0_length_8abf5 (by decide) rfl (st := [.int x3_4]) rfl rfl (Nat.le_of_ble_eq_true rfl) dX12_wordOf_6 ?_
    refine g_icmp_ge X 36 dX12_wordOf_9 (by decide) (fun hq => ?_) (fun hq => ?_)
    · have hf := zpos hq hf
      cases hf
      have hc1 := hc1 (by decide)
      exact g_sub [1] rfl hc1
    · have hf := zneg hq hf
      refine g_ldc2 X w_c_RX12_112 dX12_wordOf_12 ?_
      refine g_lload_n X 1 dX12_wordOf_15 rfl ?_
      refine g_lmul X dX12_wordOf_16 ?_
      refine g_aload_n X 0 dX12_wordOf_17 rfl ?_
      refine g_iload_n X 2 dX12_wordOf_18 rfl ?_
      obtain ⟨v4, h3, hch3, hf⟩ := zc2_e hf
      refine g_callK X 1 (zite hch3).1 (sJ0_charAt_5068e hch3) ydJ0_charAt_5068e w_ml_RX12_114 w_instanceMethod_J0_charAt_5068e w_sel_J0_charAt_5068e w_ini_RJ0 w_code_J0_charAt_5068e (by decide) rfl (st := [.long (((32 : Int64)) * j1_4)]) rfl rfl (Nat.le_of_ble_eq_true rfl) dX12_wordOf_19 ?_
      refine g_bipush X (v := 97) dX12_wordOf_22 (by decide) ?_
      refine g_isub X dX12_wordOf_24 ?_
      refine g_iconst X (v := 1) dX12_wordOf_25 (by decide) ?_
      refine g_iadd X dX12_wordOf_26 ?_
      refine g_i2l X dX12_wordOf_27 ?_
      refine g_ladd X dX12_wordOf_28 ?_
      refine g_topl (fun y5 ey5 => ?_)
      have hf := zlet_n ey5 hf
      refine g_lstore_n X [(1, .long y5), (0, .ref (sA s0)), (3, .int x3_4)] dX12_wordOf_29 (by decide) rfl ?_
      obtain ⟨y6, ey6⟩ : ∃ y : Int32, y = x3_4 + (1 : Int32) := ⟨_, rfl⟩
      have hf := zlet_n ey6 hf
      refine g_iinc X (j := 2) [(3, .int y6), (1, .long y5), (0, .ref (sA s0))] dX12_wordOf_30 rfl (by rw [ey6]; rfl) (by decide) rfl ?_
      refine g_goto X 4 dX12_wordOf_33 (by decide) ?_
      cases hf
      exact g_sub [2, 1, 0] rfl (hc0 rfl)
  · obtain ⟨ee, j1_k4, x3_k4, h_k4⟩ := qq
    have hf : kX12_wordOf_4 h ee j1_k4 x3_k4 h_k4 = some (rE, hE) := hf
    unfold kX12_wordOf_4 at hf
    show zG p l e { frames := 4, cells := 0, slots := 0, locals := 85 } s m args below meth c (MQ below (zQ D cA base h hE (some (.long rE))) args s 0 0 (zA base)) 4 D cA base h 36 [(1, .long j1_k4)] [] h_k4
    refine g_lload_n X 0 dX12_wordOf_36 rfl ?_
    obtain ⟨rfl, rfl⟩ := zsm hf
    exact g_lret X hr dX12_wordOf_37

set_option maxHeartbeats 4000000 in
set_option maxRecDepth 100000 in
theorem sX12_isWord {l : Launch} {D : va_G} {cA : Nat → ClassId} {base : Nat} {sA : Nat → Nat} {r0 : Nat} {s1 : Nat} {h hE : Zh} {rE : Int32} (hf : fX12_isWord r0 s1 h = some (rE, hE)) : zC l yX12_isWord cX12_isWord 2 (some .boolean) 5 108 D cA base sA [.ref (base + r0), .ref (sA s1)] h (some (.int rE)) hE := by
  refine g_entry RX12 (by decide) rfl (Nat.le_of_ble_eq_true rfl) ?_
  intro p e s m args below meth c X hr
  unfold fX12_isWord at hf
  have hf := zlet_n (x := h) rfl hf
  show zG p l e { frames := 5, cells := 0, slots := 0, locals := 108 } s m args below meth c (MQ below (zQ D cA base h hE (some (.int rE))) args s 0 0 (zA base)) 2 D cA base h 0 [(0, .ref (base + r0)), (1, .ref (sA s1))] [] h
  refine g_aload_n X 0 dX12_isWord_0 rfl ?_
  obtain ⟨hk1, hf⟩ := zite hf
  refine g_get X zf12 hk1 9 (by decide) w_f_RX12_118 rfl rfl dX12_isWord_1 ?_
  refine g_iconst X (v := 2) dX12_isWord_4 (by decide) ?_
  refine g_icmp_ne X 24 dX12_isWord_5 (by decide) (fun hq => ?_) (fun hq => ?_)
  · have hf := zneg hq hf
    refine g_iconst X (v := 0) dX12_isWord_24 (by decide) ?_
    obtain ⟨rfl, rfl⟩ := zsm hf
    exact g_zret X (Or.inl rfl) hr dX12_isWord_25
  · have hf := zpos hq hf
    refine g_aload_n X 0 dX12_isWord_8 rfl ?_
    refine g_get X zf12 hk1 15 (by decide) w_f_RX12_137 rfl rfl dX12_isWord_9 ?_
    refine g_aload_n X 1 dX12_isWord_12 rfl ?_
    obtain ⟨v3, h2, hch2, hf⟩ := zc2_e hf
    refine g_callS X 1 (sX12_wordOf hch2) ysX12_wordOf w_ml_RX12_153 w_static_X12_wordOf w_ini_RX12 w_code_X12_wordOf (by decide) rfl (st := [.long (zJ h r0 15)]) rfl rfl (Nat.le_of_ble_eq_true rfl) dX12_isWord_13 ?_
    refine g_lcmp X dX12_isWord_16 ?_
    refine g_if_ne X 24 dX12_isWord_17 (by decide) (fun hq => ?_) (fun hq => ?_)
    · have hf := zneg hq hf
      refine g_iconst X (v := 0) dX12_isWord_24 (by decide) ?_
      obtain ⟨rfl, rfl⟩ := zsm hf
      exact g_zret X (Or.inl rfl) hr dX12_isWord_25
    · have hf := zpos hq hf
      refine g_iconst X (v := 1) dX12_isWord_20 (by decide) ?_
      refine g_goto X 25 dX12_isWord_21 (by decide) ?_
      obtain ⟨rfl, rfl⟩ := zsm hf
      exact g_zret X (Or.inr rfl) hr dX12_isWord_25

set_option maxHeartbeats 4000000 in
set_option maxRecDepth 100000 in
theorem sX12_eatsWord {l : Launch} {D : va_G} {cA : Nat → ClassId} {base : Nat} {sA : Nat → Nat} {r0 : Nat} {s1 : Nat} {h hE : Zh} {rE : Int32} (hf : fX12_eatsWord r0 s1 h = some (rE, hE)) : zC l yX12_eatsWord cX12_eatsWord 3 (some .boolean) 6 129 D cA base sA [.ref (base + r0), .ref (sA s1)] h (some (.int rE)) hE := by
  refine g_entry RX12 (by decide) rfl (Nat.le_of_ble_eq_true rfl) ?_
  intro p e s m args below meth c X hr
  unfold fX12_eatsWord at hf
  have hf := zlet_n (x := h) rfl hf
  show zG p l e { frames := 6, cells := 0, slots := 0, locals := 129 } s m args below meth c (MQ below (zQ D cA base h hE (some (.int rE))) args s 0 0 (zA base)) 3 D cA base h 0 [(0, .ref (base + r0)), (1, .ref (sA s1))] [] h
  refine g_aload_n X 0 dX12_eatsWord_0 rfl ?_
  refine g_aload_n X 1 dX12_eatsWord_1 rfl ?_
  obtain ⟨hk1, hf⟩ := zite hf
  obtain ⟨v3, h2, hch2, hf⟩ := zc2_e hf
  refine g_callV X 1 (sX12_isWord hch2) zf12 hk1 ydX12_isWord w_ml_RX12_157 w_instanceMethod_X12_isWord w_sel_X12_isWord w_ini_RX12 w_code_X12_isWord (by decide) rfl (st := []) rfl rfl (Nat.le_of_ble_eq_true rfl) dX12_eatsWord_2 ?_
  refine g_istore_n X [(2, .int v3), (0, .ref (base + r0)), (1, .ref (sA s1))] dX12_eatsWord_5 (by decide) rfl ?_
  refine g_iload_n X 0 dX12_eatsWord_6 rfl ?_
  refine g_if_eq X 14 dX12_eatsWord_7 (by decide) (fun hq => ?_) (fun hq => ?_)
  · have hf := zpos hq hf
    refine g_iload_n X 0 dX12_eatsWord_14 rfl ?_
    obtain ⟨hb4, hf⟩ := zite hf
    obtain ⟨rfl, rfl⟩ := zsm hf
    exact g_zret X hb4 hr dX12_eatsWord_15
  · have hf := zneg hq hf
    refine g_aload_n X 1 dX12_eatsWord_10 rfl ?_
    obtain ⟨h5, hch5, hf⟩ := zbd hf
    refine g_callV X 0 (sX12_goesOn hch5) zf12 hk1 ydX12_goesOn w_ml_RX12_161 w_instanceMethod_X12_goesOn w_sel_X12_goesOn w_ini_RX12 w_code_X12_goesOn (by decide) rfl (st := []) rfl rfl (Nat.le_of_ble_eq_true rfl) dX12_eatsWord_11 ?_
    refine g_iload_n X 0 dX12_eatsWord_14 rfl ?_
    obtain ⟨hb6, hf⟩ := zite hf
    obtain ⟨rfl, rfl⟩ := zsm hf
    exact g_zret X hb6 hr dX12_eatsWord_15

set_option maxHeartbeats 4000000 in
set_option maxRecDepth 100000 in
theorem sX12_needs {l : Launch} {D : va_G} {cA : Nat → ClassId} {base : Nat} {sA : Nat → Nat} {r0 : Nat} {s1 : Nat} {h hE : Zh} (hf : fX12_needs r0 s1 h = some hE) : zC l yX12_needs cX12_needs 2 none 6 129 D cA base sA [.ref (base + r0), .ref (sA s1)] h none hE := by
  refine g_entry RX12 (by decide) rfl (Nat.le_of_ble_eq_true rfl) ?_
  intro p e s m args below meth c X hr
  unfold fX12_needs at hf
  have hf := zlet_n (x := h) rfl hf
  show zG p l e { frames := 6, cells := 0, slots := 0, locals := 129 } s m args below meth c (MQ below (zQ D cA base h hE none) args s 0 0 (zA base)) 2 D cA base h 0 [(0, .ref (base + r0)), (1, .ref (sA s1))] [] h
  refine g_aload_n X 0 dX12_needs_0 rfl ?_
  refine g_aload_n X 1 dX12_needs_1 rfl ?_
  obtain ⟨hk1, hf⟩ := zite hf
  obtain ⟨v3, h2, hch2, hf⟩ := zc2_e hf
  refine g_callV X 1 (sX12_isWord hch2) zf12 hk1 ydX12_isWord w_ml_RX12_157 w_instanceMethod_X12_isWord w_sel_X12_isWord w_ini_RX12 w_code_X12_isWord (by decide) rfl (st := []) rfl rfl (Nat.le_of_ble_eq_true rfl) dX12_needs_2 ?_
  refine g_if_ne X 13 dX12_needs_5 (by decide) (fun hq => ?_) (fun hq => ?_)
  · have hf := zneg hq hf
    refine g_aload_n X 0 dX12_needs_13 rfl ?_
    obtain ⟨h4, hch4, hf⟩ := zbd hf
    refine g_callV X 0 (sX12_goesOn hch4) zf12 hk1 ydX12_goesOn w_ml_RX12_161 w_instanceMethod_X12_goesOn w_sel_X12_goesOn w_ini_RX12 w_code_X12_goesOn (by decide) rfl (st := []) rfl rfl (Nat.le_of_ble_eq_true rfl) dX12_needs_14 ?_
    cases hf
    exact g_vret X hr dX12_needs_17
  · have hf := zpos hq hf
    refine g_aload_n X 0 dX12_needs_8 rfl ?_
    refine g_iconst X (v := 1) dX12_needs_9 (by decide) ?_
    obtain ⟨h5, hch5, hf⟩ := zbd hf
    refine g_callV X 1 (sX12_flaw hch5) zf12 hk1 ydX12_flaw w_ml_RX12_164 w_instanceMethod_X12_flaw w_sel_X12_flaw w_ini_RX12 w_code_X12_flaw (by decide) rfl (st := []) rfl rfl (Nat.le_of_ble_eq_true rfl) dX12_needs_10 ?_
    refine g_aload_n X 0 dX12_needs_13 rfl ?_
    obtain ⟨h6, hch6, hf⟩ := zbd hf
    refine g_callV X 0 (sX12_goesOn hch6) zf12 hk1 ydX12_goesOn w_ml_RX12_161 w_instanceMethod_X12_goesOn w_sel_X12_goesOn w_ini_RX12 w_code_X12_goesOn (by decide) rfl (st := []) rfl rfl (Nat.le_of_ble_eq_true rfl) dX12_needs_14 ?_
    cases hf
    exact g_vret X hr dX12_needs_17

set_option maxHeartbeats 4000000 in
set_option maxRecDepth 100000 in
theorem sX12_readPart {l : Launch} {D : va_G} {cA : Nat → ClassId} {base : Nat} {sA : Nat → Nat} {r0 : Nat} {s1 : Nat} {x2 : Int32} {x3 : Int32} {h hE : Zh} {rE : Int32} (hf : fX12_readPart r0 s1 x2 x3 h = some (rE, hE)) : zC l yX12_readPart cX12_readPart 5 (some .int) 7 150 D cA base sA [.ref (base + r0), .ref (sA s1), .int x2, .int x3] h (some (.int rE)) hE := by
  refine g_entry RX12 (by decide) rfl (Nat.le_of_ble_eq_true rfl) ?_
  intro p e s m args below meth c X hr
  unfold fX12_readPart at hf
  have hf := zlet_n (x := h) rfl hf
  show zG p l e { frames := 7, cells := 0, slots := 0, locals := 150 } s m args below meth c (MQ below (zQ D cA base h hE (some (.int rE))) args s 0 0 (zA base)) 5 D cA base h 0 [(0, .ref (base + r0)), (1, .ref (sA s1)), (2, .int x2), (3, .int x3)] [] h
  refine g_aload_n X 0 dX12_readPart_0 rfl ?_
  refine g_aload_n X 1 dX12_readPart_1 rfl ?_
  obtain ⟨hk1, hf⟩ := zite hf
  obtain ⟨h2, hch2, hf⟩ := zbd hf
  refine g_callV X 1 (sX12_needs hch2) zf12 hk1 ydX12_needs w_ml_RX12_172 w_instanceMethod_X12_needs w_sel_X12_needs w_ini_RX12 w_code_X12_needs (by decide) rfl (st := []) rfl rfl (Nat.le_of_ble_eq_true rfl) dX12_readPart_2 ?_
  refine g_aload_n X 0 dX12_readPart_5 rfl ?_
  refine g_iload_n X 2 dX12_readPart_6 rfl ?_
  refine g_iload_n X 3 dX12_readPart_7 rfl ?_
  obtain ⟨v4, h3, hch3, hf⟩ := zc2_e hf
  refine g_callV X 2 (sX12_bounded hch3) zf12 hk1 ydX12_bounded w_ml_RX12_176 w_instanceMethod_X12_bounded w_sel_X12_bounded w_ini_RX12 w_code_X12_bounded (by decide) rfl (st := []) rfl rfl (Nat.le_of_ble_eq_true rfl) dX12_readPart_8 ?_
  refine g_istore X [(4, .int v4), (0, .ref (base + r0)), (1, .ref (sA s1)), (2, .int x2), (3, .int x3)] dX12_readPart_11 (by decide) rfl ?_
  refine g_aload_n X 1 dX12_readPart_13 rfl ?_
  obtain ⟨h5, hch5, hf⟩ := zbd hf
  refine g_callV X 0 (sX12_goesOn hch5) zf12 hk1 ydX12_goesOn w_ml_RX12_161 w_instanceMethod_X12_goesOn w_sel_X12_goesOn w_ini_RX12 w_code_X12_goesOn (by decide) rfl (st := []) rfl rfl (Nat.le_of_ble_eq_true rfl) dX12_readPart_14 ?_
  refine g_iload X 0 dX12_readPart_17 rfl ?_
  obtain ⟨rfl, rfl⟩ := zsm hf
  exact g_iret X hr dX12_readPart_19

set_option maxHeartbeats 4000000 in
set_option maxRecDepth 100000 in
theorem sX12_isName {l : Launch} {D : va_G} {cA : Nat → ClassId} {base : Nat} {sA : Nat → Nat} {r0 : Nat} {h hE : Zh} {rE : Int32} (hf : fX12_isName r0 h = some (rE, hE)) : zC l yX12_isName cX12_isName 1 (some .boolean) 6 129 D cA base sA [.ref (base + r0)] h (some (.int rE)) hE := by
  refine g_entry RX12 (by decide) rfl (Nat.le_of_ble_eq_true rfl) ?_
  intro p e s m args below meth c X hr
  unfold fX12_isName at hf
  have hf := zlet_n (x := h) rfl hf
  show zG p l e { frames := 6, cells := 0, slots := 0, locals := 129 } s m args below meth c (MQ below (zQ D cA base h hE (some (.int rE))) args s 0 0 (zA base)) 1 D cA base h 0 [(0, .ref (base + r0))] [] h
  refine g_aload_n X 0 dX12_isName_0 rfl ?_
  obtain ⟨hk1, hf⟩ := zite hf
  refine g_get X zf12 hk1 9 (by decide) w_f_RX12_118 rfl rfl dX12_isName_1 ?_
  refine g_iconst X (v := 2) dX12_isName_4 (by decide) ?_
  refine g_icmp_ne X 57 dX12_isName_5 (by decide) (fun hq => ?_) (fun hq => ?_)
  · have hf := zneg hq hf
    refine g_iconst X (v := 0) dX12_isName_57 (by decide) ?_
    obtain ⟨rfl, rfl⟩ := zsm hf
    exact g_zret X (Or.inl rfl) hr dX12_isName_58
  · have hf := zpos hq hf
    refine g_aload_n X 0 dX12_isName_8 rfl ?_
    refine g_ldcS X (i := 0) (tx := "trick") (by decide) dX12_isName_9 ?_
    obtain ⟨v3, h2, hch2, hf⟩ := zc2_e hf
    refine g_callV X 1 (sX12_isWord hch2) zf12 hk1 ydX12_isWord w_ml_RX12_157 w_instanceMethod_X12_isWord w_sel_X12_isWord w_ini_RX12 w_code_X12_isWord (by decide) rfl (st := []) rfl rfl (Nat.le_of_ble_eq_true rfl) dX12_isName_11 ?_
    refine g_if_ne X 57 dX12_isName_14 (by decide) (fun hq => ?_) (fun hq => ?_)
    · have hf := zneg hq hf
      refine g_iconst X (v := 0) dX12_isName_57 (by decide) ?_
      obtain ⟨rfl, rfl⟩ := zsm hf
      exact g_zret X (Or.inl rfl) hr dX12_isName_58
    · have hf := zpos hq hf
      refine g_aload_n X 0 dX12_isName_17 rfl ?_
      refine g_ldcS X (i := 9) (tx := "rule") (by decide) dX12_isName_18 ?_
      obtain ⟨v5, h4, hch4, hf⟩ := zc2_e hf
      refine g_callV X 1 (sX12_isWord hch4) zf12 hk1 ydX12_isWord w_ml_RX12_157 w_instanceMethod_X12_isWord w_sel_X12_isWord w_ini_RX12 w_code_X12_isWord (by decide) rfl (st := []) rfl rfl (Nat.le_of_ble_eq_true rfl) dX12_isName_20 ?_
      refine g_if_ne X 57 dX12_isName_23 (by decide) (fun hq => ?_) (fun hq => ?_)
      · have hf := zneg hq hf
        refine g_iconst X (v := 0) dX12_isName_57 (by decide) ?_
        obtain ⟨rfl, rfl⟩ := zsm hf
        exact g_zret X (Or.inl rfl) hr dX12_isName_58
      · have hf := zpos hq hf
        refine g_aload_n X 0 dX12_isName_26 rfl ?_
        refine g_ldcS X (i := 10) (tx := "evening") (by decide) dX12_isName_27 ?_
        obtain ⟨v7, h6, hch6, hf⟩ := zc2_e hf
        refine g_callV X 1 (sX12_isWord hch6) zf12 hk1 ydX12_isWord w_ml_RX12_157 w_instanceMethod_X12_isWord w_sel_X12_isWord w_ini_RX12 w_code_X12_isWord (by decide) rfl (st := []) rfl rfl (Nat.le_of_ble_eq_true rfl) dX12_isName_29 ?_
        refine g_if_ne X 57 dX12_isName_32 (by decide) (fun hq => ?_) (fun hq => ?_)
        · have hf := zneg hq hf
          refine g_iconst X (v := 0) dX12_isName_57 (by decide) ?_
          obtain ⟨rfl, rfl⟩ := zsm hf
          exact g_zret X (Or.inl rfl) hr dX12_isName_58
        · have hf := zpos hq hf
          refine g_aload_n X 0 dX12_isName_35 rfl ?_
          refine g_ldcS X (i := 11) (tx := "shows") (by decide) dX12_isName_36 ?_
          obtain ⟨v9, h8, hch8, hf⟩ := zc2_e hf
          refine g_callV X 1 (sX12_isWord hch8) zf12 hk1 ydX12_isWord w_ml_RX12_157 w_instanceMethod_X12_isWord w_sel_X12_isWord w_ini_RX12 w_code_X12_isWord (by decide) rfl (st := []) rfl rfl (Nat.le_of_ble_eq_true rfl) dX12_isName_38 ?_
          refine g_if_ne X 57 dX12_isName_41 (by decide) (fun hq => ?_) (fun hq => ?_)
          · have hf := zneg hq hf
            refine g_iconst X (v := 0) dX12_isName_57 (by decide) ?_
            obtain ⟨rfl, rfl⟩ := zsm hf
            exact g_zret X (Or.inl rfl) hr dX12_isName_58
          · have hf := zpos hq hf
            refine g_aload_n X 0 dX12_isName_44 rfl ?_
            refine g_ldcS X (i := 12) (tx := "tilted") (by decide) dX12_isName_45 ?_
            obtain ⟨v11, h10, hch10, hf⟩ := zc2_e hf
            refine g_callV X 1 (sX12_isWord hch10) zf12 hk1 ydX12_isWord w_ml_RX12_157 w_instanceMethod_X12_isWord w_sel_X12_isWord w_ini_RX12 w_code_X12_isWord (by decide) rfl (st := []) rfl rfl (Nat.le_of_ble_eq_true rfl) dX12_isName_47 ?_
            refine g_if_ne X 57 dX12_isName_50 (by decide) (fun hq => ?_) (fun hq => ?_)
            · have hf := zneg hq hf
              refine g_iconst X (v := 0) dX12_isName_57 (by decide) ?_
              obtain ⟨rfl, rfl⟩ := zsm hf
              exact g_zret X (Or.inl rfl) hr dX12_isName_58
            · have hf := zpos hq hf
              refine g_iconst X (v := 1) dX12_isName_53 (by decide) ?_
              refine g_goto X 58 dX12_isName_54 (by decide) ?_
              obtain ⟨rfl, rfl⟩ := zsm hf
              exact g_zret X (Or.inr rfl) hr dX12_isName_58

set_option maxHeartbeats 4000000 in
set_option maxRecDepth 100000 in
theorem sX12_readTrick {l : Launch} {D : va_G} {cA : Nat → ClassId} {base : Nat} {sA : Nat → Nat} {r0 : Nat} {h hE : Zh} (hf : fX12_readTrick r0 h = some hE) : zC l yX12_readTrick cX12_readTrick 5 none 8 174 D cA base sA [.ref (base + r0)] h none hE := by
  refine g_entry RX12 (by decide) rfl (Nat.le_of_ble_eq_true rfl) ?_
  intro p e s m args below meth c X hr
  unfold fX12_readTrick at hf
  have hf := zlet_n (x := h) rfl hf
  show zG p l e { frames := 8, cells := 0, slots := 0, locals := 174 } s m args below meth c (MQ below (zQ D cA base h hE none) args s 0 0 (zA base)) 5 D cA base h 0 [(0, .ref (base + r0))] [] h
  refine g_aload_n X 0 dX12_readTrick_0 rfl ?_
  obtain ⟨hk1, hf⟩ := zite hf
  obtain ⟨r_2, hr_2, hf⟩ := zbd hf
  refine g_get X zf12 hk1 4 (by decide) w_f_RX12_190 rfl (zfv_r hr_2 rfl) dX12_readTrick_1 ?_
  obtain ⟨hk3, hf⟩ := zite hf
  refine g_getN X zf11 hk3 0 (by decide) w_fn_RX12_194 rfl rfl dX12_readTrick_4 ?_
  have hJ15 : ∀  (h_15 : Zh), jX12_readTrick_15 h r0 h_15 = some hE → zG p l e { frames := 8, cells := 0, slots := 0, locals := 174 } s m args below meth c (MQ below (zQ D cA base h hE none) args s 0 0 (zA base)) 5 D cA base h 15 [(0, .ref (base + r0))] [] h_15 := by
    intro  h_15 hf
    unfold jX12_readTrick_15 at hf
    refine g_aload_n X 0 dX12_readTrick_15 rfl ?_
    obtain ⟨h4, hch4, hf⟩ := zbd hf
    refine g_callV X 0 (sX12_goesOn hch4) zf12 hk1 ydX12_goesOn w_ml_RX12_161 w_instanceMethod_X12_goesOn w_sel_X12_goesOn w_ini_RX12 w_code_X12_goesOn (by decide) rfl (st := []) rfl rfl (Nat.le_of_ble_eq_true rfl) dX12_readTrick_16 ?_
    refine g_aload_n X 0 dX12_readTrick_19 rfl ?_
    refine g_ldcS X (i := 1) (tx := "cards") (by decide) dX12_readTrick_20 ?_
    refine g_iconst X (v := 4) dX12_readTrick_22 (by decide) ?_
    refine g_bipush X (v := 12) dX12_readTrick_23 (by decide) ?_
    obtain ⟨v6, h5, hch5, hf⟩ := zc2_e hf
    refine g_callV X 3 (sX12_readPart hch5) zf12 hk1 ydX12_readPart w_ml_RX12_214 w_instanceMethod_X12_readPart w_sel_X12_readPart w_ini_RX12 w_code_X12_readPart (by decide) rfl (st := []) rfl rfl (Nat.le_of_ble_eq_true rfl) dX12_readTrick_25 ?_
    refine g_istore_n X [(1, .int v6), (0, .ref (base + r0))] dX12_readTrick_28 (by decide) rfl ?_
    refine g_aload_n X 1 dX12_readTrick_29 rfl ?_
    refine g_ldcS X (i := 2) (tx := "suits") (by decide) dX12_readTrick_30 ?_
    obtain ⟨h7, hch7, hf⟩ := zbd hf
    refine g_callV X 1 (sX12_needs hch7) zf12 hk1 ydX12_needs w_ml_RX12_172 w_instanceMethod_X12_needs w_sel_X12_needs w_ini_RX12 w_code_X12_needs (by decide) rfl (st := []) rfl rfl (Nat.le_of_ble_eq_true rfl) dX12_readTrick_32 ?_
    refine g_aload_n X 1 dX12_readTrick_35 rfl ?_
    refine g_iconst X (v := 1) dX12_readTrick_36 (by decide) ?_
    refine g_iconst X (v := 4) dX12_readTrick_37 (by decide) ?_
    obtain ⟨v9, h8, hch8, hf⟩ := zc2_e hf
    refine g_callV X 2 (sX12_bounded hch8) zf12 hk1 ydX12_bounded w_ml_RX12_176 w_instanceMethod_X12_bounded w_sel_X12_bounded w_ini_RX12 w_code_X12_bounded (by decide) rfl (st := []) rfl rfl (Nat.le_of_ble_eq_true rfl) dX12_readTrick_38 ?_
    refine g_istore_n X [(2, .int v9), (1, .int v6), (0, .ref (base + r0))] dX12_readTrick_41 (by decide) rfl ?_
    refine g_iload_n X 1 dX12_readTrick_42 rfl ?_
    refine g_iload_n X 0 dX12_readTrick_43 rfl ?_
    obtain ⟨hn10, hf⟩ := zite hf
    refine g_irem X hn10 dX12_readTrick_44 ?_
    have hJ53 : ∀ (x1_53 : Int32) (x2_53 : Int32) (h_53 : Zh), jX12_readTrick_53 h r0 x1_53 x2_53 h_53 = some hE → zG p l e { frames := 8, cells := 0, slots := 0, locals := 174 } s m args below meth c (MQ below (zQ D cA base h hE none) args s 0 0 (zA base)) 5 D cA base h 53 [(0, .ref (base + r0)), (1, .int x1_53), (2, .int x2_53)] [] h_53 := by
      intro x1_53 x2_53 h_53 hf
      unfold jX12_readTrick_53 at hf
      refine g_aload_n X 0 dX12_readTrick_53 rfl ?_
      obtain ⟨h11, hch11, hf⟩ := zbd hf
      refine g_callV X 0 (sX12_goesOn hch11) zf12 hk1 ydX12_goesOn w_ml_RX12_161 w_instanceMethod_X12_goesOn w_sel_X12_goesOn w_ini_RX12 w_code_X12_goesOn (by decide) rfl (st := []) rfl rfl (Nat.le_of_ble_eq_true rfl) dX12_readTrick_54 ?_
      refine g_aload_n X 0 dX12_readTrick_57 rfl ?_
      refine g_ldcS X (i := 3) (tx := "hand") (by decide) dX12_readTrick_58 ?_
      refine g_iconst X (v := 2) dX12_readTrick_60 (by decide) ?_
      refine g_iload_n X 1 dX12_readTrick_61 rfl ?_
      refine g_iconst X (v := 5) dX12_readTrick_62 (by decide) ?_
      have hJ71 : ∀ (x1_71 : Int32) (x2_71 : Int32) (t0_71 : Int32) (t1_71 : Int32) (t2_71 : Nat) (t3_71 : Nat) (h_71 : Zh), jX12_readTrick_71 h r0 x1_71 x2_71 t0_71 t1_71 t2_71 t3_71 h_71 = some hE → zG p l e { frames := 8, cells := 0, slots := 0, locals := 174 } s m args below meth c (MQ below (zQ D cA base h hE none) args s 0 0 (zA base)) 5 D cA base h 71 [(0, .ref (base + r0)), (1, .int x1_71), (2, .int x2_71)] [.int t0_71, .int t1_71, .ref (sA t2_71), .ref (base + t3_71)] h_71 := by
        intro x1_71 x2_71 t0_71 t1_71 t2_71 t3_71 h_71 hf
        unfold jX12_readTrick_71 at hf
        obtain ⟨hk12, hf⟩ := zite hf
        obtain ⟨v14, h13, hch13, hf⟩ := zc2_e hf
        refine g_callV X 3 (sX12_readPart hch13) zf12 hk12 ydX12_readPart w_ml_RX12_214 w_instanceMethod_X12_readPart w_sel_X12_readPart w_ini_RX12 w_code_X12_readPart (by decide) rfl (st := []) rfl rfl (Nat.le_of_ble_eq_true rfl) dX12_readTrick_71 ?_
        refine g_istore_n X [(3, .int v14), (0, .ref (base + r0)), (1, .int x1_71), (2, .int x2_71)] dX12_readTrick_74 (by decide) rfl ?_
        refine g_aload_n X 1 dX12_readTrick_75 rfl ?_
        refine g_ldcS X (i := 4) (tx := "kept") (by decide) dX12_readTrick_76 ?_
        refine g_iconst X (v := 1) dX12_readTrick_78 (by decide) ?_
        refine g_iload_n X 0 dX12_readTrick_79 rfl ?_
        refine g_iconst X (v := 2) dX12_readTrick_80 (by decide) ?_
        have hJ89 : ∀ (x1_89 : Int32) (x2_89 : Int32) (x3_89 : Int32) (t0_89 : Int32) (t1_89 : Int32) (t2_89 : Nat) (t3_89 : Nat) (h_89 : Zh), jX12_readTrick_89 h r0 x1_89 x2_89 x3_89 t0_89 t1_89 t2_89 t3_89 h_89 = some hE → zG p l e { frames := 8, cells := 0, slots := 0, locals := 174 } s m args below meth c (MQ below (zQ D cA base h hE none) args s 0 0 (zA base)) 5 D cA base h 89 [(0, .ref (base + r0)), (1, .int x1_89), (2, .int x2_89), (3, .int x3_89)] [.int t0_89, .int t1_89, .ref (sA t2_89), .ref (base + t3_89)] h_89 := by
          intro x1_89 x2_89 x3_89 t0_89 t1_89 t2_89 t3_89 h_89 hf
          unfold jX12_readTrick_89 at hf
          obtain ⟨hk15, hf⟩ := zite hf
          obtain ⟨v17, h16, hch16, hf⟩ := zc2_e hf
          refine g_callV X 3 (sX12_readPart hch16) zf12 hk15 ydX12_readPart w_ml_RX12_214 w_instanceMethod_X12_readPart w_sel_X12_readPart w_ini_RX12 w_code_X12_readPart (by decide) rfl (st := []) rfl rfl (Nat.le_of_ble_eq_true rfl) dX12_readTrick_89 ?_
          refine g_istore X [(4, .int v17), (0, .ref (base + r0)), (1, .int x1_89), (2, .int x2_89), (3, .int x3_89)] dX12_readTrick_92 (by decide) rfl ?_
          refine g_aload_n X 1 dX12_readTrick_94 rfl ?_
          refine g_ldcS X (i := 6) (tx := "she") (by decide) dX12_readTrick_95 ?_
          obtain ⟨v19, h18, hch18, hf⟩ := zc2_e hf
          refine g_callV X 1 (sX12_isWord hch18) zf12 hk1 ydX12_isWord w_ml_RX12_157 w_instanceMethod_X12_isWord w_sel_X12_isWord w_ini_RX12 w_code_X12_isWord (by decide) rfl (st := []) rfl rfl (Nat.le_of_ble_eq_true rfl) dX12_readTrick_97 ?_
          have hJ117 : ∀ (x1_117 : Int32) (x2_117 : Int32) (x3_117 : Int32) (x4_117 : Int32) (h_117 : Zh), jX12_readTrick_117 h r0 x1_117 x2_117 x3_117 x4_117 h_117 = some hE → zG p l e { frames := 8, cells := 0, slots := 0, locals := 174 } s m args below meth c (MQ below (zQ D cA base h hE none) args s 0 0 (zA base)) 5 D cA base h 117 [(0, .ref (base + r0)), (1, .int x1_117), (2, .int x2_117), (3, .int x3_117), (4, .int x4_117)] [] h_117 := by
            intro x1_117 x2_117 x3_117 x4_117 h_117 hf
            unfold jX12_readTrick_117 at hf
            refine g_aload_n X 0 dX12_readTrick_117 rfl ?_
            obtain ⟨r_20, hr_20, hf⟩ := zbd hf
            refine g_get X zf12 hk1 4 (by decide) w_f_RX12_190 rfl (zfv_r hr_20 rfl) dX12_readTrick_118 ?_
            refine g_aload_n X 0 dX12_readTrick_121 rfl ?_
            refine g_ldcS X (i := 5) (tx := "stranger") (by decide) dX12_readTrick_122 ?_
            obtain ⟨v22, h21, hch21, hf⟩ := zc2_e hf
            refine g_callV X 1 (sX12_isWord hch21) zf12 hk1 ydX12_isWord w_ml_RX12_157 w_instanceMethod_X12_isWord w_sel_X12_isWord w_ini_RX12 w_code_X12_isWord (by decide) rfl (st := [.ref (base + r_20)]) rfl rfl (Nat.le_of_ble_eq_true rfl) dX12_readTrick_124 ?_
            obtain ⟨hk23, hf⟩ := zite hf
            obtain ⟨hb25, hf⟩ := zite hf
            refine g_putZN X zf11 hk23 hb25 7 (by decide) w_fn_RX12_228 rfl rfl rfl dX12_readTrick_127 ?_
            refine g_hp (fun h24 eh24 => ?_)
            have hf := zlet_n eh24 hf
            refine g_aload_n X 0 dX12_readTrick_130 rfl ?_
            obtain ⟨r_26, hr_26, hf⟩ := zbd hf
            refine g_get X zf12 hk1 4 (by decide) w_f_RX12_190 rfl (zfv_r hr_26 rfl) dX12_readTrick_131 ?_
            refine g_iload_n X 3 dX12_readTrick_134 rfl ?_
            obtain ⟨hk27, hf⟩ := zite hf
            refine g_putIN X zf11 hk27 2 (by decide) w_fn_RX12_232 rfl rfl rfl dX12_readTrick_135 ?_
            refine g_hp (fun h28 eh28 => ?_)
            have hf := zlet_n eh28 hf
            refine g_aload_n X 0 dX12_readTrick_138 rfl ?_
            refine g_get X zf12 hk1 9 (by decide) w_f_RX12_118 rfl rfl dX12_readTrick_139 ?_
            refine g_iconst X (v := 5) dX12_readTrick_142 (by decide) ?_
            have hJ167 : ∀ (x1_167 : Int32) (x2_167 : Int32) (x3_167 : Int32) (x4_167 : Int32) (h_167 : Zh), jX12_readTrick_167 h r0 x1_167 x2_167 x3_167 x4_167 h_167 = some hE → zG p l e { frames := 8, cells := 0, slots := 0, locals := 174 } s m args below meth c (MQ below (zQ D cA base h hE none) args s 0 0 (zA base)) 5 D cA base h 167 [(0, .ref (base + r0)), (1, .int x1_167), (2, .int x2_167), (3, .int x3_167), (4, .int x4_167)] [] h_167 := by
              intro x1_167 x2_167 x3_167 x4_167 h_167 hf
              unfold jX12_readTrick_167 at hf
              refine g_aload_n X 0 dX12_readTrick_167 rfl ?_
              obtain ⟨h29, hch29, hf⟩ := zbd hf
              refine g_callV X 0 (sX12_goesOn hch29) zf12 hk1 ydX12_goesOn w_ml_RX12_161 w_instanceMethod_X12_goesOn w_sel_X12_goesOn w_ini_RX12 w_code_X12_goesOn (by decide) rfl (st := []) rfl rfl (Nat.le_of_ble_eq_true rfl) dX12_readTrick_168 ?_
              refine g_aload_n X 0 dX12_readTrick_171 rfl ?_
              obtain ⟨r_30, hr_30, hf⟩ := zbd hf
              refine g_get X zf12 hk1 4 (by decide) w_f_RX12_190 rfl (zfv_r hr_30 rfl) dX12_readTrick_172 ?_
              refine g_aload_n X 0 dX12_readTrick_175 rfl ?_
              obtain ⟨r_31, hr_31, hf⟩ := zbd hf
              refine g_get X zf12 hk1 4 (by decide) w_f_RX12_190 rfl (zfv_r hr_31 rfl) dX12_readTrick_176 ?_
              obtain ⟨hk32, hf⟩ := zite hf
              refine g_getN X zf11 hk32 7 (by decide) w_fn_RX12_228 rfl rfl dX12_readTrick_179 ?_
              have hJ199 : ∀ (x1_199 : Int32) (x2_199 : Int32) (x3_199 : Int32) (x4_199 : Int32) (t0_199 : Int32) (t1_199 : Nat) (h_199 : Zh), jX12_readTrick_199 h r0 x1_199 x2_199 x3_199 x4_199 t0_199 t1_199 h_199 = some hE → zG p l e { frames := 8, cells := 0, slots := 0, locals := 174 } s m args below meth c (MQ below (zQ D cA base h hE none) args s 0 0 (zA base)) 5 D cA base h 199 [(0, .ref (base + r0)), (1, .int x1_199), (2, .int x2_199), (3, .int x3_199), (4, .int x4_199)] [.int t0_199, .ref (base + t1_199)] h_199 := by
                intro x1_199 x2_199 x3_199 x4_199 t0_199 t1_199 h_199 hf
                unfold jX12_readTrick_199 at hf
                obtain ⟨hk33, hf⟩ := zite hf
                obtain ⟨hb35, hf⟩ := zite hf
                refine g_putZN X zf11 hk33 hb35 8 (by decide) w_fn_RX12_245 rfl rfl rfl dX12_readTrick_199 ?_
                refine g_hp (fun h34 eh34 => ?_)
                have hf := zlet_n eh34 hf
                refine g_aload_n X 0 dX12_readTrick_202 rfl ?_
                obtain ⟨r_36, hr_36, hf⟩ := zbd hf
                refine g_get X zf12 hk1 4 (by decide) w_f_RX12_190 rfl (zfv_r hr_36 rfl) dX12_readTrick_203 ?_
                refine g_aload_n X 0 dX12_readTrick_206 rfl ?_
                refine g_ldcS X (i := 8) (tx := "tilts") (by decide) dX12_readTrick_207 ?_
                obtain ⟨v38, h37, hch37, hf⟩ := zc2_e hf
                refine g_callV X 1 (sX12_eatsWord hch37) zf12 hk1 ydX12_eatsWord w_ml_RX12_242 w_instanceMethod_X12_eatsWord w_sel_X12_eatsWord w_ini_RX12 w_code_X12_eatsWord (by decide) rfl (st := [.ref (base + r_36)]) rfl rfl (Nat.le_of_ble_eq_true rfl) dX12_readTrick_209 ?_
                obtain ⟨hk39, hf⟩ := zite hf
                obtain ⟨hb41, hf⟩ := zite hf
                refine g_putZN X zf11 hk39 hb41 9 (by decide) w_fn_RX12_250 rfl rfl rfl dX12_readTrick_212 ?_
                refine g_hp (fun h40 eh40 => ?_)
                have hf := zlet_n eh40 hf
                refine g_aload_n X 0 dX12_readTrick_215 rfl ?_
                refine g_get X zf12 hk1 9 (by decide) w_f_RX12_118 rfl rfl dX12_readTrick_216 ?_
                refine g_iconst X (v := 5) dX12_readTrick_219 (by decide) ?_
                refine g_icmp_ne X 224 dX12_readTrick_220 (by decide) (fun hq => ?_) (fun hq => ?_)
                · have hf := zneg hq hf
                  refine g_aload_n X 0 dX12_readTrick_224 rfl ?_
                  obtain ⟨r_42, hr_42, hf⟩ := zbd hf
                  refine g_get X zf12 hk1 4 (by decide) w_f_RX12_190 rfl (zfv_r hr_42 rfl) dX12_readTrick_225 ?_
                  refine g_iload_n X 1 dX12_readTrick_228 rfl ?_
                  obtain ⟨hk43, hf⟩ := zite hf
                  refine g_putIN X zf11 hk43 0 (by decide) w_fn_RX12_194 rfl rfl rfl dX12_readTrick_229 ?_
                  refine g_hp (fun h44 eh44 => ?_)
                  have hf := zlet_n eh44 hf
                  refine g_aload_n X 0 dX12_readTrick_232 rfl ?_
                  obtain ⟨r_45, hr_45, hf⟩ := zbd hf
                  refine g_get X zf12 hk1 4 (by decide) w_f_RX12_190 rfl (zfv_r hr_45 rfl) dX12_readTrick_233 ?_
                  refine g_iload_n X 2 dX12_readTrick_236 rfl ?_
                  obtain ⟨hk46, hf⟩ := zite hf
                  refine g_putIN X zf11 hk46 1 (by decide) w_fn_RX12_253 rfl rfl rfl dX12_readTrick_237 ?_
                  refine g_hp (fun h47 eh47 => ?_)
                  have hf := zlet_n eh47 hf
                  refine g_aload_n X 0 dX12_readTrick_240 rfl ?_
                  obtain ⟨r_48, hr_48, hf⟩ := zbd hf
                  refine g_get X zf12 hk1 4 (by decide) w_f_RX12_190 rfl (zfv_r hr_48 rfl) dX12_readTrick_241 ?_
                  refine g_iload X 4 dX12_readTrick_244 rfl ?_
                  obtain ⟨hk49, hf⟩ := zite hf
                  refine g_putIN X zf11 hk49 3 (by decide) w_fn_RX12_255 rfl rfl rfl dX12_readTrick_246 ?_
                  refine g_hp (fun h50 eh50 => ?_)
                  have hf := zlet_n eh50 hf
                  refine g_aload_n X 0 dX12_readTrick_249 rfl ?_
                  obtain ⟨r_51, hr_51, hf⟩ := zbd hf
                  refine g_get X zf12 hk1 4 (by decide) w_f_RX12_190 rfl (zfv_r hr_51 rfl) dX12_readTrick_250 ?_
                  refine g_iload_n X 3 dX12_readTrick_253 rfl ?_
                  refine g_iload X 4 dX12_readTrick_254 rfl ?_
                  refine g_isub X dX12_readTrick_256 ?_
                  obtain ⟨hk52, hf⟩ := zite hf
                  refine g_putIN X zf11 hk52 4 (by decide) w_fn_RX12_257 rfl rfl rfl dX12_readTrick_257 ?_
                  refine g_hp (fun h53 eh53 => ?_)
                  have hf := zlet_n eh53 hf
                  cases hf
                  exact g_vret X hr dX12_readTrick_260
                · have hf := zpos hq hf
                  cases hf
                  exact g_vret X hr dX12_readTrick_223
              have hJ198 : ∀ (x1_198 : Int32) (x2_198 : Int32) (x3_198 : Int32) (x4_198 : Int32) (t0_198 : Nat) (h_198 : Zh), jX12_readTrick_198 h r0 x1_198 x2_198 x3_198 x4_198 t0_198 h_198 = some hE → zG p l e { frames := 8, cells := 0, slots := 0, locals := 174 } s m args below meth c (MQ below (zQ D cA base h hE none) args s 0 0 (zA base)) 5 D cA base h 198 [(0, .ref (base + r0)), (1, .int x1_198), (2, .int x2_198), (3, .int x3_198), (4, .int x4_198)] [.ref (base + t0_198)] h_198 := by
                intro x1_198 x2_198 x3_198 x4_198 t0_198 h_198 hf
                unfold jX12_readTrick_198 at hf
                refine g_iconst X (v := 0) dX12_readTrick_198 (by decide) ?_
                refine g_sub [0, 1, 2, 3, 4] rfl ?_
                exact hJ199 _ _ _ _ _ _ _ hf
              refine g_if_ne X 198 dX12_readTrick_182 (by decide) (fun hq => ?_) (fun hq => ?_)
              · have hf := zneg hq hf
                refine g_sub [0, 1, 2, 3, 4] rfl ?_
                exact hJ198 _ _ _ _ _ _ hf
              · have hf := zpos hq hf
                refine g_aload_n X 0 dX12_readTrick_185 rfl ?_
                refine g_ldcS X (i := 7) (tx := "held") (by decide) dX12_readTrick_186 ?_
                obtain ⟨v55, h54, hch54, hf⟩ := zc2_e hf
                refine g_callV X 1 (sX12_eatsWord hch54) zf12 hk1 ydX12_eatsWord w_ml_RX12_242 w_instanceMethod_X12_eatsWord w_sel_X12_eatsWord w_ini_RX12 w_code_X12_eatsWord (by decide) rfl (st := [.ref (base + r_30)]) rfl rfl (Nat.le_of_ble_eq_true rfl) dX12_readTrick_188 ?_
                refine g_if_eq X 198 dX12_readTrick_191 (by decide) (fun hq => ?_) (fun hq => ?_)
                · have hf := zpos hq hf
                  refine g_sub [0, 1, 2, 3, 4] rfl ?_
                  exact hJ198 _ _ _ _ _ _ hf
                · have hf := zneg hq hf
                  refine g_iconst X (v := 1) dX12_readTrick_194 (by decide) ?_
                  refine g_goto X 199 dX12_readTrick_195 (by decide) ?_
                  refine g_sub [0, 1, 2, 3, 4] rfl ?_
                  exact hJ199 _ _ _ _ _ _ _ hf
            refine g_icmp_eq X 167 dX12_readTrick_143 (by decide) (fun hq => ?_) (fun hq => ?_)
            · have hf := zpos hq hf
              refine g_sub [0, 1, 2, 3, 4] rfl ?_
              exact hJ167 _ _ _ _ _ hf
            · have hf := zneg hq hf
              refine g_aload_n X 0 dX12_readTrick_146 rfl ?_
              obtain ⟨r_56, hr_56, hf⟩ := zbd hf
              refine g_get X zf12 hk1 4 (by decide) w_f_RX12_190 rfl (zfv_r hr_56 rfl) dX12_readTrick_147 ?_
              refine g_iload_n X 1 dX12_readTrick_150 rfl ?_
              obtain ⟨hk57, hf⟩ := zite hf
              obtain ⟨v59, h58, hch58, hf⟩ := zc2_e hf
              refine g_callV X 1 (sX11_handsOf hch58) zf11 hk57 ydX11_handsOf w_ml_RX12_234 w_instanceMethod_X11_handsOf w_sel_X11_handsOf w_ini_RX11 w_code_X11_handsOf (by decide) rfl (st := []) rfl rfl (Nat.le_of_ble_eq_true rfl) dX12_readTrick_151 ?_
              refine g_ldc2 X w_c_RX12_238 dX12_readTrick_154 ?_
              refine g_lcmp X dX12_readTrick_157 ?_
              refine g_if_le X 167 dX12_readTrick_158 (by decide) (fun hq => ?_) (fun hq => ?_)
              · have hf := zpos hq hf
                refine g_sub [0, 1, 2, 3, 4] rfl ?_
                exact hJ167 _ _ _ _ _ hf
              · have hf := zneg hq hf
                refine g_aload_n X 0 dX12_readTrick_161 rfl ?_
                refine g_bipush X (v := 7) dX12_readTrick_162 (by decide) ?_
                obtain ⟨h60, hch60, hf⟩ := zbd hf
                refine g_callV X 1 (sX12_flaw hch60) zf12 hk1 ydX12_flaw w_ml_RX12_164 w_instanceMethod_X12_flaw w_sel_X12_flaw w_ini_RX12 w_code_X12_flaw (by decide) rfl (st := []) rfl rfl (Nat.le_of_ble_eq_true rfl) dX12_readTrick_164 ?_
                refine g_sub [0, 1, 2, 3, 4] rfl ?_
                exact hJ167 _ _ _ _ _ hf
          refine g_if_ne X 117 dX12_readTrick_100 (by decide) (fun hq => ?_) (fun hq => ?_)
          · have hf := zneg hq hf
            refine g_sub [1, 2, 3, 4, 0] rfl ?_
            exact hJ117 _ _ _ _ _ hf
          · have hf := zpos hq hf
            refine g_aload_n X 1 dX12_readTrick_103 rfl ?_
            refine g_ldcS X (i := 5) (tx := "stranger") (by decide) dX12_readTrick_104 ?_
            obtain ⟨v62, h61, hch61, hf⟩ := zc2_e hf
            refine g_callV X 1 (sX12_isWord hch61) zf12 hk1 ydX12_isWord w_ml_RX12_157 w_instanceMethod_X12_isWord w_sel_X12_isWord w_ini_RX12 w_code_X12_isWord (by decide) rfl (st := []) rfl rfl (Nat.le_of_ble_eq_true rfl) dX12_readTrick_106 ?_
            refine g_if_ne X 117 dX12_readTrick_109 (by decide) (fun hq => ?_) (fun hq => ?_)
            · have hf := zneg hq hf
              refine g_sub [1, 2, 3, 4, 0] rfl ?_
              exact hJ117 _ _ _ _ _ hf
            · have hf := zpos hq hf
              refine g_aload_n X 1 dX12_readTrick_112 rfl ?_
              refine g_iconst X (v := 1) dX12_readTrick_113 (by decide) ?_
              obtain ⟨h63, hch63, hf⟩ := zbd hf
              refine g_callV X 1 (sX12_flaw hch63) zf12 hk1 ydX12_flaw w_ml_RX12_164 w_instanceMethod_X12_flaw w_sel_X12_flaw w_ini_RX12 w_code_X12_flaw (by decide) rfl (st := []) rfl rfl (Nat.le_of_ble_eq_true rfl) dX12_readTrick_114 ?_
              refine g_sub [1, 2, 3, 4, 0] rfl ?_
              exact hJ117 _ _ _ _ _ hf
        refine g_icmp_le X 88 dX12_readTrick_81 (by decide) (fun hq => ?_) (fun hq => ?_)
        · have hf := zpos hq hf
          refine g_iconst X (v := 1) dX12_readTrick_88 (by decide) ?_
          refine g_sub [1, 2, 3, 0] rfl ?_
          exact hJ89 _ _ _ _ _ _ _ _ hf
        · have hf := zneg hq hf
          refine g_iconst X (v := 2) dX12_readTrick_84 (by decide) ?_
          refine g_goto X 89 dX12_readTrick_85 (by decide) ?_
          refine g_sub [1, 2, 3, 0] rfl ?_
          exact hJ89 _ _ _ _ _ _ _ _ hf
      refine g_icmp_ge X 70 dX12_readTrick_63 (by decide) (fun hq => ?_) (fun hq => ?_)
      · have hf := zpos hq hf
        refine g_iconst X (v := 5) dX12_readTrick_70 (by decide) ?_
        refine g_sub [0, 1, 2] rfl ?_
        exact hJ71 _ _ _ _ _ _ _ hf
      · have hf := zneg hq hf
        refine g_iload_n X 1 dX12_readTrick_66 rfl ?_
        refine g_goto X 71 dX12_readTrick_67 (by decide) ?_
        refine g_sub [0, 1, 2] rfl ?_
        exact hJ71 _ _ _ _ _ _ _ hf
    refine g_if_eq X 53 dX12_readTrick_45 (by decide) (fun hq => ?_) (fun hq => ?_)
    · have hf := zpos hq hf
      refine g_sub [2, 1, 0] rfl ?_
      exact hJ53 _ _ _ hf
    · have hf := zneg hq hf
      refine g_aload_n X 2 dX12_readTrick_48 rfl ?_
      refine g_iconst X (v := 4) dX12_readTrick_49 (by decide) ?_
      obtain ⟨h64, hch64, hf⟩ := zbd hf
      refine g_callV X 1 (sX12_flaw hch64) zf12 hk1 ydX12_flaw w_ml_RX12_164 w_instanceMethod_X12_flaw w_sel_X12_flaw w_ini_RX12 w_code_X12_flaw (by decide) rfl (st := []) rfl rfl (Nat.le_of_ble_eq_true rfl) dX12_readTrick_50 ?_
      refine g_sub [2, 1, 0] rfl ?_
      exact hJ53 _ _ _ hf
  refine g_if_le X 15 dX12_readTrick_7 (by decide) (fun hq => ?_) (fun hq => ?_)
  · have hf := zpos hq hf
    refine g_sub [0] rfl ?_
    exact hJ15 _ hf
  · have hf := zneg hq hf
    refine g_aload_n X 0 dX12_readTrick_10 rfl ?_
    refine g_iconst X (v := 3) dX12_readTrick_11 (by decide) ?_
    obtain ⟨h65, hch65, hf⟩ := zbd hf
    refine g_callV X 1 (sX12_flaw hch65) zf12 hk1 ydX12_flaw w_ml_RX12_164 w_instanceMethod_X12_flaw w_sel_X12_flaw w_ini_RX12 w_code_X12_flaw (by decide) rfl (st := []) rfl rfl (Nat.le_of_ble_eq_true rfl) dX12_readTrick_12 ?_
    refine g_sub [0] rfl ?_
    exact hJ15 _ hf

set_option maxHeartbeats 4000000 in
set_option maxRecDepth 100000 in
theorem sX12_readWords {l : Launch} {D : va_G} {cA : Nat → ClassId} {base : Nat} {sA : Nat → Nat} {r0 : Nat} {h hE : Zh} {rE : Int32} (hf : fX12_readWords r0 h = some (rE, hE)) : zC l yX12_readWords cX12_readWords 3 (some .int) 7 151 D cA base sA [.ref (base + r0)] h (some (.int rE)) hE := by
  refine g_entry RX12 (by decide) rfl (Nat.le_of_ble_eq_true rfl) ?_
  intro p e s m args below meth c X hr
  unfold fX12_readWords at hf
  have hf := zlet_n (x := h) rfl hf
  show zG p l e { frames := 7, cells := 0, slots := 0, locals := 151 } s m args below meth c (MQ below (zQ D cA base h hE (some (.int rE))) args s 0 0 (zA base)) 3 D cA base h 0 [(0, .ref (base + r0))] [] h
  refine g_aload_n X 0 dX12_readWords_0 rfl ?_
  refine g_ldcwS X (i := 16) (tx := "low") (by decide) dX12_readWords_1 ?_
  obtain ⟨hk1, hf⟩ := zite hf
  obtain ⟨v3, h2, hch2, hf⟩ := zc2_e hf
  refine g_callV X 1 (sX12_eatsWord hch2) zf12 hk1 ydX12_eatsWord w_ml_RX12_242 w_instanceMethod_X12_eatsWord w_sel_X12_eatsWord w_ini_RX12 w_code_X12_eatsWord (by decide) rfl (st := []) rfl rfl (Nat.le_of_ble_eq_true rfl) dX12_readWords_4 ?_
  have hJ57 : ∀ (t0_57 : Int32) (h_57 : Zh), jX12_readWords_57 h r0 t0_57 h_57 = some (rE, hE) → zG p l e { frames := 7, cells := 0, slots := 0, locals := 151 } s m args below meth c (MQ below (zQ D cA base h hE (some (.int rE))) args s 0 0 (zA base)) 3 D cA base h 57 [(0, .ref (base + r0))] [.int t0_57] h_57 := by
    intro t0_57 h_57 hf
    unfold jX12_readWords_57 at hf
    refine g_istore_n X [(1, .int t0_57), (0, .ref (base + r0))] dX12_readWords_57 (by decide) rfl ?_
    refine g_iload_n X 0 dX12_readWords_58 rfl ?_
    refine g_iconst X (v := -1) dX12_readWords_59 (by decide) ?_
    have hJ68 : ∀ (x1_68 : Int32) (h_68 : Zh), jX12_readWords_68 h r0 x1_68 h_68 = some (rE, hE) → zG p l e { frames := 7, cells := 0, slots := 0, locals := 151 } s m args below meth c (MQ below (zQ D cA base h hE (some (.int rE))) args s 0 0 (zA base)) 3 D cA base h 68 [(0, .ref (base + r0)), (1, .int x1_68)] [] h_68 := by
      intro x1_68 h_68 hf
      unfold jX12_readWords_68 at hf
      refine g_aload_n X 0 dX12_readWords_68 rfl ?_
      refine g_ldcwS X (i := 20) (tx := "tells") (by decide) dX12_readWords_69 ?_
      obtain ⟨h4, hch4, hf⟩ := zbd hf
      refine g_callV X 1 (sX12_needs hch4) zf12 hk1 ydX12_needs w_ml_RX12_172 w_instanceMethod_X12_needs w_sel_X12_needs w_ini_RX12 w_code_X12_needs (by decide) rfl (st := []) rfl rfl (Nat.le_of_ble_eq_true rfl) dX12_readWords_72 ?_
      refine g_aload_n X 0 dX12_readWords_75 rfl ?_
      refine g_ldcwS X (i := 21) (tx := "place") (by decide) dX12_readWords_76 ?_
      obtain ⟨v6, h5, hch5, hf⟩ := zc2_e hf
      refine g_callV X 1 (sX12_eatsWord hch5) zf12 hk1 ydX12_eatsWord w_ml_RX12_242 w_instanceMethod_X12_eatsWord w_sel_X12_eatsWord w_ini_RX12 w_code_X12_eatsWord (by decide) rfl (st := []) rfl rfl (Nat.le_of_ble_eq_true rfl) dX12_readWords_79 ?_
      have hJ146 : ∀ (x1_146 : Int32) (t0_146 : Int32) (h_146 : Zh), jX12_readWords_146 h r0 x1_146 t0_146 h_146 = some (rE, hE) → zG p l e { frames := 7, cells := 0, slots := 0, locals := 151 } s m args below meth c (MQ below (zQ D cA base h hE (some (.int rE))) args s 0 0 (zA base)) 3 D cA base h 146 [(0, .ref (base + r0)), (1, .int x1_146)] [.int t0_146] h_146 := by
        intro x1_146 t0_146 h_146 hf
        unfold jX12_readWords_146 at hf
        refine g_istore_n X [(2, .int t0_146), (0, .ref (base + r0)), (1, .int x1_146)] dX12_readWords_146 (by decide) rfl ?_
        refine g_iload_n X 0 dX12_readWords_147 rfl ?_
        refine g_iconst X (v := -1) dX12_readWords_148 (by decide) ?_
        refine g_icmp_ne X 157 dX12_readWords_149 (by decide) (fun hq => ?_) (fun hq => ?_)
        · have hf := zneg hq hf
          refine g_iconst X (v := 5) dX12_readWords_157 (by decide) ?_
          refine g_iload_n X 2 dX12_readWords_158 rfl ?_
          refine g_imul X dX12_readWords_159 ?_
          refine g_iload_n X 0 dX12_readWords_160 rfl ?_
          refine g_iadd X dX12_readWords_161 ?_
          obtain ⟨rfl, rfl⟩ := zsm hf
          exact g_iret X hr dX12_readWords_162
        · have hf := zpos hq hf
          refine g_aload_n X 1 dX12_readWords_152 rfl ?_
          refine g_iconst X (v := 1) dX12_readWords_153 (by decide) ?_
          obtain ⟨h7, hch7, hf⟩ := zbd hf
          refine g_callV X 1 (sX12_flaw hch7) zf12 hk1 ydX12_flaw w_ml_RX12_164 w_instanceMethod_X12_flaw w_sel_X12_flaw w_ini_RX12 w_code_X12_flaw (by decide) rfl (st := []) rfl rfl (Nat.le_of_ble_eq_true rfl) dX12_readWords_154 ?_
          refine g_iconst X (v := 5) dX12_readWords_157 (by decide) ?_
          refine g_iload_n X 2 dX12_readWords_158 rfl ?_
          refine g_imul X dX12_readWords_159 ?_
          refine g_iload_n X 0 dX12_readWords_160 rfl ?_
          refine g_iadd X dX12_readWords_161 ?_
          obtain ⟨rfl, rfl⟩ := zsm hf
          exact g_iret X hr dX12_readWords_162
      refine g_if_eq X 89 dX12_readWords_82 (by decide) (fun hq => ?_) (fun hq => ?_)
      · have hf := zpos hq hf
        refine g_aload_n X 0 dX12_readWords_89 rfl ?_
        refine g_ldcwS X (i := 22) (tx := "rank") (by decide) dX12_readWords_90 ?_
        obtain ⟨v9, h8, hch8, hf⟩ := zc2_e hf
        refine g_callV X 1 (sX12_eatsWord hch8) zf12 hk1 ydX12_eatsWord w_ml_RX12_242 w_instanceMethod_X12_eatsWord w_sel_X12_eatsWord w_ini_RX12 w_code_X12_eatsWord (by decide) rfl (st := []) rfl rfl (Nat.le_of_ble_eq_true rfl) dX12_readWords_93 ?_
        refine g_if_eq X 103 dX12_readWords_96 (by decide) (fun hq => ?_) (fun hq => ?_)
        · have hf := zpos hq hf
          refine g_aload_n X 0 dX12_readWords_103 rfl ?_
          refine g_ldcwS X (i := 23) (tx := "gap") (by decide) dX12_readWords_104 ?_
          obtain ⟨v11, h10, hch10, hf⟩ := zc2_e hf
          refine g_callV X 1 (sX12_eatsWord hch10) zf12 hk1 ydX12_eatsWord w_ml_RX12_242 w_instanceMethod_X12_eatsWord w_sel_X12_eatsWord w_ini_RX12 w_code_X12_eatsWord (by decide) rfl (st := []) rfl rfl (Nat.le_of_ble_eq_true rfl) dX12_readWords_107 ?_
          refine g_if_eq X 117 dX12_readWords_110 (by decide) (fun hq => ?_) (fun hq => ?_)
          · have hf := zpos hq hf
            refine g_aload_n X 0 dX12_readWords_117 rfl ?_
            refine g_ldcwS X (i := 24) (tx := "ring") (by decide) dX12_readWords_118 ?_
            obtain ⟨v13, h12, hch12, hf⟩ := zc2_e hf
            refine g_callV X 1 (sX12_eatsWord hch12) zf12 hk1 ydX12_eatsWord w_ml_RX12_242 w_instanceMethod_X12_eatsWord w_sel_X12_eatsWord w_ini_RX12 w_code_X12_eatsWord (by decide) rfl (st := []) rfl rfl (Nat.le_of_ble_eq_true rfl) dX12_readWords_121 ?_
            refine g_if_eq X 131 dX12_readWords_124 (by decide) (fun hq => ?_) (fun hq => ?_)
            · have hf := zpos hq hf
              refine g_aload_n X 0 dX12_readWords_131 rfl ?_
              refine g_ldcwS X (i := 19) (tx := "sum") (by decide) dX12_readWords_132 ?_
              obtain ⟨v15, h14, hch14, hf⟩ := zc2_e hf
              refine g_callV X 1 (sX12_eatsWord hch14) zf12 hk1 ydX12_eatsWord w_ml_RX12_242 w_instanceMethod_X12_eatsWord w_sel_X12_eatsWord w_ini_RX12 w_code_X12_eatsWord (by decide) rfl (st := []) rfl rfl (Nat.le_of_ble_eq_true rfl) dX12_readWords_135 ?_
              refine g_if_eq X 145 dX12_readWords_138 (by decide) (fun hq => ?_) (fun hq => ?_)
              · have hf := zpos hq hf
                refine g_iconst X (v := -1) dX12_readWords_145 (by decide) ?_
                refine g_sub [0, 1] rfl ?_
                exact hJ146 _ _ _ hf
              · have hf := zneg hq hf
                refine g_iconst X (v := 4) dX12_readWords_141 (by decide) ?_
                refine g_goto X 146 dX12_readWords_142 (by decide) ?_
                refine g_sub [0, 1] rfl ?_
                exact hJ146 _ _ _ hf
            · have hf := zneg hq hf
              refine g_iconst X (v := 3) dX12_readWords_127 (by decide) ?_
              refine g_goto X 146 dX12_readWords_128 (by decide) ?_
              refine g_sub [0, 1] rfl ?_
              exact hJ146 _ _ _ hf
          · have hf := zneg hq hf
            refine g_iconst X (v := 2) dX12_readWords_113 (by decide) ?_
            refine g_goto X 146 dX12_readWords_114 (by decide) ?_
            refine g_sub [0, 1] rfl ?_
            exact hJ146 _ _ _ hf
        · have hf := zneg hq hf
          refine g_iconst X (v := 1) dX12_readWords_99 (by decide) ?_
          refine g_goto X 146 dX12_readWords_100 (by decide) ?_
          refine g_sub [0, 1] rfl ?_
          exact hJ146 _ _ _ hf
      · have hf := zneg hq hf
        refine g_iconst X (v := 0) dX12_readWords_85 (by decide) ?_
        refine g_goto X 146 dX12_readWords_86 (by decide) ?_
        refine g_sub [0, 1] rfl ?_
        exact hJ146 _ _ _ hf
    refine g_icmp_ne X 68 dX12_readWords_60 (by decide) (fun hq => ?_) (fun hq => ?_)
    · have hf := zneg hq hf
      refine g_sub [1, 0] rfl ?_
      exact hJ68 _ _ hf
    · have hf := zpos hq hf
      refine g_aload_n X 1 dX12_readWords_63 rfl ?_
      refine g_iconst X (v := 1) dX12_readWords_64 (by decide) ?_
      obtain ⟨h16, hch16, hf⟩ := zbd hf
      refine g_callV X 1 (sX12_flaw hch16) zf12 hk1 ydX12_flaw w_ml_RX12_164 w_instanceMethod_X12_flaw w_sel_X12_flaw w_ini_RX12 w_code_X12_flaw (by decide) rfl (st := []) rfl rfl (Nat.le_of_ble_eq_true rfl) dX12_readWords_65 ?_
      refine g_sub [1, 0] rfl ?_
      exact hJ68 _ _ hf
  refine g_if_eq X 14 dX12_readWords_7 (by decide) (fun hq => ?_) (fun hq => ?_)
  · have hf := zpos hq hf
    refine g_aload_n X 0 dX12_readWords_14 rfl ?_
    refine g_ldcwS X (i := 17) (tx := "high") (by decide) dX12_readWords_15 ?_
    obtain ⟨v18, h17, hch17, hf⟩ := zc2_e hf
    refine g_callV X 1 (sX12_eatsWord hch17) zf12 hk1 ydX12_eatsWord w_ml_RX12_242 w_instanceMethod_X12_eatsWord w_sel_X12_eatsWord w_ini_RX12 w_code_X12_eatsWord (by decide) rfl (st := []) rfl rfl (Nat.le_of_ble_eq_true rfl) dX12_readWords_18 ?_
    refine g_if_eq X 28 dX12_readWords_21 (by decide) (fun hq => ?_) (fun hq => ?_)
    · have hf := zpos hq hf
      refine g_aload_n X 0 dX12_readWords_28 rfl ?_
      refine g_ldcwS X (i := 18) (tx := "mid") (by decide) dX12_readWords_29 ?_
      obtain ⟨v20, h19, hch19, hf⟩ := zc2_e hf
      refine g_callV X 1 (sX12_eatsWord hch19) zf12 hk1 ydX12_eatsWord w_ml_RX12_242 w_instanceMethod_X12_eatsWord w_sel_X12_eatsWord w_ini_RX12 w_code_X12_eatsWord (by decide) rfl (st := []) rfl rfl (Nat.le_of_ble_eq_true rfl) dX12_readWords_32 ?_
      refine g_if_eq X 42 dX12_readWords_35 (by decide) (fun hq => ?_) (fun hq => ?_)
      · have hf := zpos hq hf
        refine g_aload_n X 0 dX12_readWords_42 rfl ?_
        refine g_ldcwS X (i := 19) (tx := "sum") (by decide) dX12_readWords_43 ?_
        obtain ⟨v22, h21, hch21, hf⟩ := zc2_e hf
        refine g_callV X 1 (sX12_eatsWord hch21) zf12 hk1 ydX12_eatsWord w_ml_RX12_242 w_instanceMethod_X12_eatsWord w_sel_X12_eatsWord w_ini_RX12 w_code_X12_eatsWord (by decide) rfl (st := []) rfl rfl (Nat.le_of_ble_eq_true rfl) dX12_readWords_46 ?_
        refine g_if_eq X 56 dX12_readWords_49 (by decide) (fun hq => ?_) (fun hq => ?_)
        · have hf := zpos hq hf
          refine g_iconst X (v := -1) dX12_readWords_56 (by decide) ?_
          refine g_sub [0] rfl ?_
          exact hJ57 _ _ hf
        · have hf := zneg hq hf
          refine g_iconst X (v := 3) dX12_readWords_52 (by decide) ?_
          refine g_goto X 57 dX12_readWords_53 (by decide) ?_
          refine g_sub [0] rfl ?_
          exact hJ57 _ _ hf
      · have hf := zneg hq hf
        refine g_iconst X (v := 2) dX12_readWords_38 (by decide) ?_
        refine g_goto X 57 dX12_readWords_39 (by decide) ?_
        refine g_sub [0] rfl ?_
        exact hJ57 _ _ hf
    · have hf := zneg hq hf
      refine g_iconst X (v := 1) dX12_readWords_24 (by decide) ?_
      refine g_goto X 57 dX12_readWords_25 (by decide) ?_
      refine g_sub [0] rfl ?_
      exact hJ57 _ _ hf
  · have hf := zneg hq hf
    refine g_iconst X (v := 0) dX12_readWords_10 (by decide) ?_
    refine g_goto X 57 dX12_readWords_11 (by decide) ?_
    refine g_sub [0] rfl ?_
    exact hJ57 _ _ hf

set_option maxHeartbeats 4000000 in
set_option maxRecDepth 100000 in
theorem sX12_readRule {l : Launch} {D : va_G} {cA : Nat → ClassId} {base : Nat} {sA : Nat → Nat} {r0 : Nat} {h hE : Zh} (hf : fX12_readRule r0 h = some hE) : zC l yX12_readRule cX12_readRule 4 none 8 173 D cA base sA [.ref (base + r0)] h none hE := by
  refine g_entry RX12 (by decide) rfl (Nat.le_of_ble_eq_true rfl) ?_
  intro p e s m args below meth c X hr
  unfold fX12_readRule at hf
  have hf := zlet_n (x := h) rfl hf
  show zG p l e { frames := 8, cells := 0, slots := 0, locals := 173 } s m args below meth c (MQ below (zQ D cA base h hE none) args s 0 0 (zA base)) 4 D cA base h 0 [(0, .ref (base + r0))] [] h
  refine g_aload_n X 0 dX12_readRule_0 rfl ?_
  refine g_aload_n X 0 dX12_readRule_1 rfl ?_
  obtain ⟨hk1, hf⟩ := zite hf
  obtain ⟨r_2, hr_2, hf⟩ := zbd hf
  refine g_get X zf12 hk1 4 (by decide) w_f_RX12_190 rfl (zfv_r hr_2 rfl) dX12_readRule_2 ?_
  obtain ⟨hk3, hf⟩ := zite hf
  refine g_getN X zf11 hk3 5 (by decide) w_fn_RX12_259 rfl rfl dX12_readRule_5 ?_
  refine g_iconst X (v := 4) dX12_readRule_8 (by decide) ?_
  obtain ⟨h4, hch4, hf⟩ := zbd hf
  refine g_callV X 2 (sX12_begins hch4) zf12 hk1 ydX12_begins w_ml_RX12_262 w_instanceMethod_X12_begins w_sel_X12_begins w_ini_RX12 w_code_X12_begins (by decide) rfl (st := []) rfl rfl (Nat.le_of_ble_eq_true rfl) dX12_readRule_9 ?_
  refine g_aload_n X 0 dX12_readRule_12 rfl ?_
  obtain ⟨v6, h5, hch5, hf⟩ := zc2_e hf
  refine g_callV X 0 (sX12_isName hch5) zf12 hk1 ydX12_isName w_ml_RX12_266 w_instanceMethod_X12_isName w_sel_X12_isName w_ini_RX12 w_code_X12_isName (by decide) rfl (st := []) rfl rfl (Nat.le_of_ble_eq_true rfl) dX12_readRule_13 ?_
  have hJ24 : ∀  (h_24 : Zh), jX12_readRule_24 h r0 h_24 = some hE → zG p l e { frames := 8, cells := 0, slots := 0, locals := 173 } s m args below meth c (MQ below (zQ D cA base h hE none) args s 0 0 (zA base)) 4 D cA base h 24 [(0, .ref (base + r0))] [] h_24 := by
    intro  h_24 hf
    unfold jX12_readRule_24 at hf
    refine g_iconst X (v := 0) dX12_readRule_24 (by decide) ?_
    refine g_istore_n X [(1, .int ((0 : Int32))), (0, .ref (base + r0))] dX12_readRule_25 (by decide) rfl ?_
    refine g_sub [1, 0] rfl ?_
    obtain ⟨qq, hlp, hf⟩ := zbd hf
    refine lp_snd (body := (fun q : Int32 × Zh => bX12_readRule_26 h r0 q.1 q.2)) (P := (fun q : Int32 × Zh => zG p l e { frames := 8, cells := 0, slots := 0, locals := 173 } s m args below meth c (MQ below (zQ D cA base h hE none) args s 0 0 (zA base)) 4 D cA base h 26 [(0, .ref (base + r0)), (1, .int q.1)] [] q.2)) (E := (fun (en : Nat) (q : Int32 × Zh) => zG p l e { frames := 8, cells := 0, slots := 0, locals := 173 } s m args below meth c (MQ below (zQ D cA base h hE none) args s 0 0 (zA base)) 4 D cA base h 73 [(0, .ref (base + r0))] [] q.2)) ?_ zB ((0 : Int32), h_24) qq.1 qq.2 hlp ?_
    · intro q e_26 q_26 hf hc0 hc1
      obtain ⟨x1_26, h_26⟩ := q
      have hf : bX12_readRule_26 h r0 x1_26 h_26 = some (e_26, q_26) := hf
      unfold bX12_readRule_26 at hf
      show zG p l e { frames := 8, cells := 0, slots := 0, locals := 173 } s m args below meth c (MQ below (zQ D cA base h hE none) args s 0 0 (zA base)) 4 D cA base h 26 [(0, .ref (base + r0)), (1, .int x1_26)] [] h_26
      refine g_iload_n X 1 dX12_readRule_26 rfl ?_
      refine g_aload_n X 0 dX12_readRule_27 rfl ?_
      obtain ⟨r_7, hr_7, hf⟩ := zbd hf
      refine g_get X zf12 hk1 4 (by decide) w_f_RX12_190 rfl (zfv_r hr_7 rfl) dX12_readRule_28 ?_
      obtain ⟨hk8, hf⟩ := zite hf
      refine g_getN X zf11 hk8 5 (by decide) w_fn_RX12_259 rfl rfl dX12_readRule_31 ?_
      refine g_icmp_ge X 73 dX12_readRule_34 (by decide) (fun hq => ?_) (fun hq => ?_)
      · have hf := zpos hq hf
        cases hf
        have hc1 := hc1 (by decide)
        exact g_sub [0] rfl hc1
      · have hf := zneg hq hf
        refine g_aload_n X 0 dX12_readRule_37 rfl ?_
        refine g_get X zf12 hk1 9 (by decide) w_f_RX12_118 rfl rfl dX12_readRule_38 ?_
        refine g_iconst X (v := 5) dX12_readRule_41 (by decide) ?_
        refine g_icmp_eq X 67 dX12_readRule_42 (by decide) (fun hq => ?_) (fun hq => ?_)
        · have hf := zpos hq hf
          obtain ⟨y9, ey9⟩ : ∃ y : Int32, y = x1_26 + (1 : Int32) := ⟨_, rfl⟩
          have hf := zlet_n ey9 hf
          refine g_iinc X (j := 1) [(1, .int y9), (0, .ref (base + r0))] dX12_readRule_67 rfl (by rw [ey9]; rfl) (by decide) rfl ?_
          refine g_goto X 26 dX12_readRule_70 (by decide) ?_
          cases hf
          exact g_sub [1, 0] rfl (hc0 rfl)
        · have hf := zneg hq hf
          refine g_aload_n X 0 dX12_readRule_45 rfl ?_
          obtain ⟨r_10, hr_10, hf⟩ := zbd hf
          refine g_get X zf12 hk1 4 (by decide) w_f_RX12_190 rfl (zfv_r hr_10 rfl) dX12_readRule_46 ?_
          obtain ⟨hk11, hf⟩ := zite hf
          obtain ⟨r_12, hr_12, hf⟩ := zbd hf
          refine g_getN X zf11 hk11 14 (by decide) w_fn_RX12_270 rfl (zfv_r hr_12 rfl) dX12_readRule_49 ?_
          refine g_iload_n X 1 dX12_readRule_52 rfl ?_
          obtain ⟨hk13, hf⟩ := zite hf
          obtain ⟨hi14, hf⟩ := zite hf
          refine g_lald X hk13 hi14 dX12_readRule_53 ?_
          refine g_aload_n X 0 dX12_readRule_54 rfl ?_
          refine g_get X zf12 hk1 15 (by decide) w_f_RX12_137 rfl rfl dX12_readRule_55 ?_
          refine g_lcmp X dX12_readRule_58 ?_
          refine g_if_ne X 67 dX12_readRule_59 (by decide) (fun hq => ?_) (fun hq => ?_)
          · have hf := zneg hq hf
            obtain ⟨y15, ey15⟩ : ∃ y : Int32, y = x1_26 + (1 : Int32) := ⟨_, rfl⟩
            have hf := zlet_n ey15 hf
            refine g_iinc X (j := 1) [(1, .int y15), (0, .ref (base + r0))] dX12_readRule_67 rfl (by rw [ey15]; rfl) (by decide) rfl ?_
            refine g_goto X 26 dX12_readRule_70 (by decide) ?_
            cases hf
            exact g_sub [1, 0] rfl (hc0 rfl)
          · have hf := zpos hq hf
            refine g_aload_n X 0 dX12_readRule_62 rfl ?_
            refine g_iconst X (v := 3) dX12_readRule_63 (by decide) ?_
            obtain ⟨h16, hch16, hf⟩ := zbd hf
            refine g_callV X 1 (sX12_flaw hch16) zf12 hk1 ydX12_flaw w_ml_RX12_164 w_instanceMethod_X12_flaw w_sel_X12_flaw w_ini_RX12 w_code_X12_flaw (by decide) rfl (st := []) rfl rfl (Nat.le_of_ble_eq_true rfl) dX12_readRule_64 ?_
            obtain ⟨y17, ey17⟩ : ∃ y : Int32, y = x1_26 + (1 : Int32) := ⟨_, rfl⟩
            have hf := zlet_n ey17 hf
            refine g_iinc X (j := 1) [(1, .int y17), (0, .ref (base + r0))] dX12_readRule_67 rfl (by rw [ey17]; rfl) (by decide) rfl ?_
            refine g_goto X 26 dX12_readRule_70 (by decide) ?_
            cases hf
            exact g_sub [1, 0] rfl (hc0 rfl)
    · obtain ⟨ee, x1_k26, h_k26⟩ := qq
      have hf : kX12_readRule_26 h r0 ee x1_k26 h_k26 = some hE := hf
      unfold kX12_readRule_26 at hf
      show zG p l e { frames := 8, cells := 0, slots := 0, locals := 173 } s m args below meth c (MQ below (zQ D cA base h hE none) args s 0 0 (zA base)) 4 D cA base h 73 [(0, .ref (base + r0))] [] h_k26
      refine g_aload_n X 0 dX12_readRule_73 rfl ?_
      refine g_get X zf12 hk1 15 (by decide) w_f_RX12_137 rfl rfl dX12_readRule_74 ?_
      refine g_topl (fun y18 ey18 => ?_)
      have hf := zlet_n ey18 hf
      refine g_lstore_n X [(1, .long y18), (0, .ref (base + r0))] dX12_readRule_77 (by decide) rfl ?_
      refine g_aload_n X 1 dX12_readRule_78 rfl ?_
      obtain ⟨h19, hch19, hf⟩ := zbd hf
      refine g_callV X 0 (sX12_goesOn hch19) zf12 hk1 ydX12_goesOn w_ml_RX12_161 w_instanceMethod_X12_goesOn w_sel_X12_goesOn w_ini_RX12 w_code_X12_goesOn (by decide) rfl (st := []) rfl rfl (Nat.le_of_ble_eq_true rfl) dX12_readRule_79 ?_
      refine g_aload_n X 1 dX12_readRule_82 rfl ?_
      refine g_ldcwS X (i := 13) (tx := "suit") (by decide) dX12_readRule_83 ?_
      obtain ⟨v21, h20, hch20, hf⟩ := zc2_e hf
      refine g_callV X 1 (sX12_eatsWord hch20) zf12 hk1 ydX12_eatsWord w_ml_RX12_242 w_instanceMethod_X12_eatsWord w_sel_X12_eatsWord w_ini_RX12 w_code_X12_eatsWord (by decide) rfl (st := []) rfl rfl (Nat.le_of_ble_eq_true rfl) dX12_readRule_86 ?_
      have hJ130 : ∀ (j1_130 : Int64) (t0_130 : Int32) (h_130 : Zh), jX12_readRule_130 h r0 j1_130 t0_130 h_130 = some hE → zG p l e { frames := 8, cells := 0, slots := 0, locals := 173 } s m args below meth c (MQ below (zQ D cA base h hE none) args s 0 0 (zA base)) 4 D cA base h 130 [(0, .ref (base + r0)), (1, .long j1_130)] [.int t0_130] h_130 := by
        intro j1_130 t0_130 h_130 hf
        unfold jX12_readRule_130 at hf
        refine g_istore_n X [(3, .int t0_130), (0, .ref (base + r0)), (1, .long j1_130)] dX12_readRule_130 (by decide) rfl ?_
        refine g_iload_n X 0 dX12_readRule_131 rfl ?_
        refine g_iconst X (v := -1) dX12_readRule_132 (by decide) ?_
        have hJ141 : ∀ (j1_141 : Int64) (x3_141 : Int32) (h_141 : Zh), jX12_readRule_141 h r0 j1_141 x3_141 h_141 = some hE → zG p l e { frames := 8, cells := 0, slots := 0, locals := 173 } s m args below meth c (MQ below (zQ D cA base h hE none) args s 0 0 (zA base)) 4 D cA base h 141 [(0, .ref (base + r0)), (1, .long j1_141), (3, .int x3_141)] [] h_141 := by
          intro j1_141 x3_141 h_141 hf
          unfold jX12_readRule_141 at hf
          refine g_aload_n X 0 dX12_readRule_141 rfl ?_
          refine g_get X zf12 hk1 9 (by decide) w_f_RX12_118 rfl rfl dX12_readRule_142 ?_
          refine g_iconst X (v := 5) dX12_readRule_145 (by decide) ?_
          refine g_icmp_ne X 150 dX12_readRule_146 (by decide) (fun hq => ?_) (fun hq => ?_)
          · have hf := zneg hq hf
            refine g_aload_n X 0 dX12_readRule_150 rfl ?_
            obtain ⟨r_22, hr_22, hf⟩ := zbd hf
            refine g_get X zf12 hk1 4 (by decide) w_f_RX12_190 rfl (zfv_r hr_22 rfl) dX12_readRule_151 ?_
            obtain ⟨hk23, hf⟩ := zite hf
            obtain ⟨r_24, hr_24, hf⟩ := zbd hf
            refine g_getN X zf11 hk23 14 (by decide) w_fn_RX12_270 rfl (zfv_r hr_24 rfl) dX12_readRule_154 ?_
            refine g_aload_n X 0 dX12_readRule_157 rfl ?_
            obtain ⟨r_25, hr_25, hf⟩ := zbd hf
            refine g_get X zf12 hk1 4 (by decide) w_f_RX12_190 rfl (zfv_r hr_25 rfl) dX12_readRule_158 ?_
            obtain ⟨hk26, hf⟩ := zite hf
            refine g_getN X zf11 hk26 5 (by decide) w_fn_RX12_259 rfl rfl dX12_readRule_161 ?_
            refine g_lload_n X 1 dX12_readRule_164 rfl ?_
            obtain ⟨hk27, hf⟩ := zite hf
            obtain ⟨hi28, hf⟩ := zite hf
            refine g_last X hk27 hi28 dX12_readRule_165 ?_
            refine g_hp (fun h29 eh29 => ?_)
            have hf := zlet_n eh29 hf
            refine g_aload_n X 0 dX12_readRule_166 rfl ?_
            obtain ⟨r_30, hr_30, hf⟩ := zbd hf
            refine g_get X zf12 hk1 4 (by decide) w_f_RX12_190 rfl (zfv_r hr_30 rfl) dX12_readRule_167 ?_
            obtain ⟨hk31, hf⟩ := zite hf
            obtain ⟨r_32, hr_32, hf⟩ := zbd hf
            refine g_getN X zf11 hk31 10 (by decide) w_fn_RX12_283 rfl (zfv_r hr_32 rfl) dX12_readRule_170 ?_
            refine g_aload_n X 0 dX12_readRule_173 rfl ?_
            obtain ⟨r_33, hr_33, hf⟩ := zbd hf
            refine g_get X zf12 hk1 4 (by decide) w_f_RX12_190 rfl (zfv_r hr_33 rfl) dX12_readRule_174 ?_
            obtain ⟨hk34, hf⟩ := zite hf
            refine g_getN X zf11 hk34 5 (by decide) w_fn_RX12_259 rfl rfl dX12_readRule_177 ?_
            refine g_iload_n X 2 dX12_readRule_180 rfl ?_
            obtain ⟨hk35, hf⟩ := zite hf
            obtain ⟨hi36, hf⟩ := zite hf
            refine g_iast X hk35 hi36 dX12_readRule_181 ?_
            refine g_hp (fun h37 eh37 => ?_)
            have hf := zlet_n eh37 hf
            refine g_aload_n X 0 dX12_readRule_182 rfl ?_
            obtain ⟨r_38, hr_38, hf⟩ := zbd hf
            refine g_get X zf12 hk1 4 (by decide) w_f_RX12_190 rfl (zfv_r hr_38 rfl) dX12_readRule_183 ?_
            refine g_dup X dX12_readRule_186 rfl ?_
            obtain ⟨hk39, hf⟩ := zite hf
            refine g_getN X zf11 hk39 5 (by decide) w_fn_RX12_259 rfl rfl dX12_readRule_187 ?_
            refine g_iconst X (v := 1) dX12_readRule_190 (by decide) ?_
            refine g_iadd X dX12_readRule_191 ?_
            refine g_putIN X zf11 hk39 5 (by decide) w_fn_RX12_259 rfl rfl rfl dX12_readRule_192 ?_
            refine g_hp (fun h40 eh40 => ?_)
            have hf := zlet_n eh40 hf
            cases hf
            exact g_vret X hr dX12_readRule_195
          · have hf := zpos hq hf
            cases hf
            exact g_vret X hr dX12_readRule_149
        refine g_icmp_ne X 141 dX12_readRule_133 (by decide) (fun hq => ?_) (fun hq => ?_)
        · have hf := zneg hq hf
          refine g_sub [1, 2, 0] rfl ?_
          exact hJ141 _ _ _ hf
        · have hf := zpos hq hf
          refine g_aload_n X 1 dX12_readRule_136 rfl ?_
          refine g_iconst X (v := 1) dX12_readRule_137 (by decide) ?_
          obtain ⟨h41, hch41, hf⟩ := zbd hf
          refine g_callV X 1 (sX12_flaw hch41) zf12 hk1 ydX12_flaw w_ml_RX12_164 w_instanceMethod_X12_flaw w_sel_X12_flaw w_ini_RX12 w_code_X12_flaw (by decide) rfl (st := []) rfl rfl (Nat.le_of_ble_eq_true rfl) dX12_readRule_138 ?_
          refine g_sub [1, 2, 0] rfl ?_
          exact hJ141 _ _ _ hf
      refine g_if_eq X 97 dX12_readRule_89 (by decide) (fun hq => ?_) (fun hq => ?_)
      · have hf := zpos hq hf
        refine g_aload_n X 1 dX12_readRule_97 rfl ?_
        refine g_ldcwS X (i := 14) (tx := "table") (by decide) dX12_readRule_98 ?_
        obtain ⟨v43, h42, hch42, hf⟩ := zc2_e hf
        refine g_callV X 1 (sX12_eatsWord hch42) zf12 hk1 ydX12_eatsWord w_ml_RX12_242 w_instanceMethod_X12_eatsWord w_sel_X12_eatsWord w_ini_RX12 w_code_X12_eatsWord (by decide) rfl (st := []) rfl rfl (Nat.le_of_ble_eq_true rfl) dX12_readRule_101 ?_
        refine g_if_eq X 112 dX12_readRule_104 (by decide) (fun hq => ?_) (fun hq => ?_)
        · have hf := zpos hq hf
          refine g_aload_n X 1 dX12_readRule_112 rfl ?_
          refine g_ldcwS X (i := 15) (tx := "keeps") (by decide) dX12_readRule_113 ?_
          obtain ⟨v45, h44, hch44, hf⟩ := zc2_e hf
          refine g_callV X 1 (sX12_eatsWord hch44) zf12 hk1 ydX12_eatsWord w_ml_RX12_242 w_instanceMethod_X12_eatsWord w_sel_X12_eatsWord w_ini_RX12 w_code_X12_eatsWord (by decide) rfl (st := []) rfl rfl (Nat.le_of_ble_eq_true rfl) dX12_readRule_116 ?_
          refine g_if_eq X 129 dX12_readRule_119 (by decide) (fun hq => ?_) (fun hq => ?_)
          · have hf := zpos hq hf
            refine g_iconst X (v := -1) dX12_readRule_129 (by decide) ?_
            refine g_sub [1, 0] rfl ?_
            exact hJ130 _ _ _ hf
          · have hf := zneg hq hf
            refine g_aload_n X 1 dX12_readRule_122 rfl ?_
            obtain ⟨v47, h46, hch46, hf⟩ := zc2_e hf
            refine g_callV X 0 (sX12_readWords hch46) zf12 hk1 ydX12_readWords w_ml_RX12_280 w_instanceMethod_X12_readWords w_sel_X12_readWords w_ini_RX12 w_code_X12_readWords (by decide) rfl (st := []) rfl rfl (Nat.le_of_ble_eq_true rfl) dX12_readRule_123 ?_
            refine g_goto X 130 dX12_readRule_126 (by decide) ?_
            refine g_sub [1, 0] rfl ?_
            exact hJ130 _ _ _ hf
        · have hf := zneg hq hf
          refine g_bipush X (v := 21) dX12_readRule_107 (by decide) ?_
          refine g_goto X 130 dX12_readRule_109 (by decide) ?_
          refine g_sub [1, 0] rfl ?_
          exact hJ130 _ _ _ hf
      · have hf := zneg hq hf
        refine g_bipush X (v := 20) dX12_readRule_92 (by decide) ?_
        refine g_goto X 130 dX12_readRule_94 (by decide) ?_
        refine g_sub [1, 0] rfl ?_
        exact hJ130 _ _ _ hf
  refine g_if_ne X 24 dX12_readRule_16 (by decide) (fun hq => ?_) (fun hq => ?_)
  · have hf := zneg hq hf
    refine g_sub [0] rfl ?_
    exact hJ24 _ hf
  · have hf := zpos hq hf
    refine g_aload_n X 0 dX12_readRule_19 rfl ?_
    refine g_iconst X (v := 1) dX12_readRule_20 (by decide) ?_
    obtain ⟨h48, hch48, hf⟩ := zbd hf
    refine g_callV X 1 (sX12_flaw hch48) zf12 hk1 ydX12_flaw w_ml_RX12_164 w_instanceMethod_X12_flaw w_sel_X12_flaw w_ini_RX12 w_code_X12_flaw (by decide) rfl (st := []) rfl rfl (Nat.le_of_ble_eq_true rfl) dX12_readRule_21 ?_
    refine g_sub [0] rfl ?_
    exact hJ24 _ hf

