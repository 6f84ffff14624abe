/-! FifthCardModel isRule -/
def fX12_isRule (r0 : Nat) (x1 : Int32) (h : Zh) : Option (Int32 × Zh) := zlet h fun g =>
  if zK g r0 = 12 then if (zR h r0 3).isSome = true then if x1 < 0 then some ((0 : Int32), h) else (zR h r0 3).bind fun r_2 => if zK g r_2 = 11 then if (zI h r_2 5) ≤ x1 then some ((0 : Int32), h) else some ((1 : Int32), h) else none else some ((0 : Int32), h) else none
/-! FifthCardModel lays -/
def fX12_lays (r0 : Nat) (x1 : Int32) (x2 : Int32) (h : Zh) : Option (Int32 × Zh) := zlet h fun g =>
  if zK g r0 = 12 then zlet (zsI h r0 0 ((0 : Int32))) fun h2 => zc2 (fX12_isRule r0 x1 h2) fun v4 h3 => if v4 = 0 then zc2 (fX12_refused r0 ((1 : Int32)) h3) fun v6 h5 => some (v6, h5) else zc2 (fX12_isHand r0 x2 h3) fun v8 h7 => if v8 = 0 then zc2 (fX12_refused r0 ((1 : Int32)) h7) fun v10 h9 => some (v10, h9) else zc2 (fX12_laysNow r0 x1 x2 h7) fun v12 h11 => zc2 (fX12_good r0 v12 h11) fun v14 h13 => some (v14, h13) else none
/-! FifthCardModel kept -/
def bX12_kept_106 (g : Zh) (r0 : Nat) (x6 : Int32) (x7 : Int32) (x8 : Int32) (h : Zh) : Option (Nat × Int32 × Int32 × Zh) :=
  (zR h r0 3).bind fun r_23 => if zK g r_23 = 11 then if (zI h r_23 4) ≤ x8 then some (1, (x7, (x8, h))) else if x7 = 0 then zlet (x8 + (1 : Int32)) fun y25 => some (0, ((0 : Int32), (y25, h))) else (zR h r0 19).bind fun r_26 => if zK g r_26 = 100 then if zin x8 (zL g r_26) then if (zI h r_26 x8.toNatClampNeg) = x6 then zlet (x8 + (1 : Int32)) fun y29 => some (0, ((0 : Int32), (y29, h))) else zlet (x8 + (1 : Int32)) fun y30 => some (0, ((1 : Int32), (y30, h))) else none else none else none
def kX12_kept_106 (g : Zh) (r0 : Nat) (x2 : Int32) (x3 : Int32) (x5 : Int32) (x6 : Int32) (e : Nat) (x7 : Int32) (x8 : Int32) (h : Zh) : Option (Nat × Int32 × Int32 × Zh) :=
  if x7 = 0 then zlet (x6 + (1 : Int32)) fun y33 => some (0, (x5, (y33, h))) else if x5 = x3 then some (1, (x5, (x6, h))) else zlet (x5 + (1 : Int32)) fun y31 => zlet (x6 + (1 : Int32)) fun y32 => some (0, (y31, (y32, h)))
def bX12_kept_82 (g : Zh) (r0 : Nat) (x2 : Int32) (x3 : Int32) (x5 : Int32) (x6 : Int32) (h : Zh) : Option (Nat × Int32 × Int32 × Zh) :=
  (zR h r0 3).bind fun r_19 => if zK g r_19 = 11 then if (zI h r_19 0) ≤ x6 then some (2, (x5, (x6, h))) else zc2 (fX12_has r0 x2 x6 h) fun v22 h21 => (lp (fun q : Int32 × Int32 × Zh => bX12_kept_106 g r0 x6 q.1 q.2.1 q.2.2) zB (v22, ((0 : Int32), h21))).bind fun q => kX12_kept_106 g r0 x2 x3 x5 x6 q.1 q.2.1 q.2.2.1 q.2.2.2 else none
def kX12_kept_82 (g : Zh) (r0 : Nat) (e : Nat) (x5 : Int32) (x6 : Int32) (h : Zh) : Option (Int32 × Zh) :=
  if e = 1 then zc2 (fX12_good r0 x6 h) fun v35 h34 => some (v35, h34) else zc2 (fX12_refused r0 ((1 : Int32)) h) fun v37 h36 => some (v37, h36)
def fX12_kept (r0 : Nat) (x1 : Int32) (x2 : Int32) (x3 : Int32) (h : Zh) : Option (Int32 × Zh) := zlet h fun g =>
  if zK g r0 = 12 then zlet (zsI h r0 0 ((0 : Int32))) fun h2 => zc2 (fX12_isRule r0 x1 h2) fun v4 h3 => if v4 = 0 then zc2 (fX12_refused r0 ((1 : Int32)) h3) fun v6 h5 => some (v6, h5) else zc2 (fX12_isHand r0 x2 h3) fun v8 h7 => if v8 = 0 then zc2 (fX12_refused r0 ((1 : Int32)) h7) fun v10 h9 => some (v10, h9) else (zR h7 r0 3).bind fun r_11 => if zK g r_11 = 11 then zc2 (fX12_in x3 ((0 : Int32)) ((zI h7 r_11 3) - ((1 : Int32))) h7) fun v14 h13 => if v14 = 0 then zc2 (fX12_refused r0 ((1 : Int32)) h13) fun v41 h40 => some (v41, h40) else zc2 (fX12_laysNow r0 x1 x2 h13) fun v16 h15 => if v16 = ((-2 : Int32)) then zc2 (fX12_refused r0 ((6 : Int32)) h15) fun v39 h38 => some (v39, h38) else (zR h15 r0 19).bind fun r_17 => (fX12_rowCards r0 v16 r_17 h15).bind fun h18 => (lp (fun q : Int32 × Int32 × Zh => bX12_kept_82 g r0 x2 x3 q.1 q.2.1 q.2.2) zB ((0 : Int32), ((0 : Int32), h18))).bind fun q => kX12_kept_82 g r0 q.1 q.2.1 q.2.2.1 q.2.2.2 else none else none
/-! FifthCardModel laysAll -/
def bX12_laysAll_2 (g : Zh) (r0 : Nat) (x1 : Int32) (x2 : Int32) (h : Zh) : Option (Nat × Int32 × Zh) :=
  if zK g r0 = 12 then if (zI h r0 17) ≤ x2 then some (1, (x2, h)) else (zR h r0 25).bind fun r_2 => zc2 (fX12_laysNow r0 x1 x2 h) fun v4 h3 => if zK g r_2 = 100 then if zin x2 (zL g r_2) then zlet (zsI h3 r_2 x2.toNatClampNeg v4) fun h7 => zlet (x2 + (1 : Int32)) fun y8 => some (0, (y8, h7)) else none else none else none
def kX12_laysAll_2 (g : Zh)  (e : Nat) (x2 : Int32) (h : Zh) : Option Zh :=
  some h
def fX12_laysAll (r0 : Nat) (x1 : Int32) (h : Zh) : Option Zh := zlet h fun g =>
  (lp (fun q : Int32 × Zh => bX12_laysAll_2 g r0 x1 q.1 q.2) zB ((0 : Int32), h)).bind fun q => kX12_laysAll_2 g q.1 q.2.1 q.2.2
/-! FifthCardModel laysAllWords -/
def bX12_laysAllWords_2 (g : Zh) (r0 : Nat) (x1 : Int32) (x2 : Int32) (h : Zh) : Option (Nat × Int32 × Zh) :=
  if zK g r0 = 12 then if (zI h r0 17) ≤ x2 then some (1, (x2, h)) else (zR h r0 25).bind fun r_2 => zc2 (fX12_laysWords r0 x1 x2 h) fun v4 h3 => if zK g r_2 = 100 then if zin x2 (zL g r_2) then zlet (zsI h3 r_2 x2.toNatClampNeg v4) fun h7 => zlet (x2 + (1 : Int32)) fun y8 => some (0, (y8, h7)) else none else none else none
def kX12_laysAllWords_2 (g : Zh)  (e : Nat) (x2 : Int32) (h : Zh) : Option Zh :=
  some h
def fX12_laysAllWords (r0 : Nat) (x1 : Int32) (h : Zh) : Option Zh := zlet h fun g =>
  (lp (fun q : Int32 × Zh => bX12_laysAllWords_2 g r0 x1 q.1 q.2) zB ((0 : Int32), h)).bind fun q => kX12_laysAllWords_2 g q.1 q.2.1 q.2.2
/-! FifthCardModel firstWith -/
def bX12_firstWith_2 (g : Zh) (r0 : Nat) (x1 : Int32) (x2 : Int32) (h : Zh) : Option (Nat × Int32 × Zh) :=
  if zK g r0 = 12 then if (zI h r0 17) ≤ x2 then some (2, (x2, h)) else (zR h r0 25).bind fun r_2 => if zK g r_2 = 100 then if zin x2 (zL g r_2) then if (zI h r_2 x2.toNatClampNeg) = x1 then some (1, (x2, h)) else zlet (x2 + (1 : Int32)) fun y5 => some (0, (y5, h)) else none else none else none
def kX12_firstWith_2 (g : Zh)  (e : Nat) (x2 : Int32) (h : Zh) : Option (Int32 × Zh) :=
  if e = 1 then some (x2, h) else some ((-2 : Int32), h)
def fX12_firstWith (r0 : Nat) (x1 : Int32) (h : Zh) : Option (Int32 × Zh) := zlet h fun g =>
  (lp (fun q : Int32 × Zh => bX12_firstWith_2 g r0 x1 q.1 q.2) zB ((0 : Int32), h)).bind fun q => kX12_firstWith_2 g q.1 q.2.1 q.2.2
/-! FifthCardModel says -/
def fX12_says (r0 : Nat) (x1 : Int32) (x2 : Int32) (h : Zh) : Option (Int32 × Zh) := zlet h fun g =>
  if zK g r0 = 12 then zlet (zsI h r0 0 ((0 : Int32))) fun h2 => zc2 (fX12_isRule r0 x1 h2) fun v4 h3 => if v4 = 0 then zc2 (fX12_refused r0 ((1 : Int32)) h3) fun v6 h5 => some (v6, h5) else zc2 (fX12_isRow r0 x2 h3) fun v8 h7 => if v8 = 0 then zc2 (fX12_refused r0 ((1 : Int32)) h7) fun v15 h14 => some (v15, h14) else (fX12_laysAll r0 x1 h7).bind fun h9 => zc2 (fX12_firstWith r0 x2 h9) fun v11 h10 => zc2 (fX12_good r0 v11 h10) fun v13 h12 => some (v13, h12) else none
/-! FifthCardModel clashNow -/
def bX12_clashNow_2 (g : Zh) (r0 : Nat) (x1 : Int32) (h : Zh) : Option (Nat × Int32 × Zh) :=
  if zK g r0 = 12 then if (zI h r0 17) ≤ x1 then some (2, (x1, h)) else (zR h r0 25).bind fun r_2 => if zK g r_2 = 100 then if zin x1 (zL g r_2) then if (zI h r_2 x1.toNatClampNeg) = ((-2 : Int32)) then zlet (x1 + (1 : Int32)) fun y5 => some (0, (y5, h)) else (zR h r0 25).bind fun r_6 => if zK g r_6 = 100 then if zin x1 (zL g r_6) then zc2 (fX12_firstWith r0 (zI h r_6 x1.toNatClampNeg) h) fun v10 h9 => if x1 ≤ v10 then zlet (x1 + (1 : Int32)) fun y11 => some (0, (y11, h9)) else some (1, (x1, h9)) else none else none else none else none else none
def kX12_clashNow_2 (g : Zh)  (e : Nat) (x1 : Int32) (h : Zh) : Option (Int32 × Zh) :=
  if e = 1 then some (x1, h) else some ((-2 : Int32), h)
def fX12_clashNow (r0 : Nat) (h : Zh) : Option (Int32 × Zh) := zlet h fun g =>
  (lp (fun q : Int32 × Zh => bX12_clashNow_2 g r0 q.1 q.2) zB ((0 : Int32), h)).bind fun q => kX12_clashNow_2 g q.1 q.2.1 q.2.2
/-! FifthCardModel isWorking -/
def bX12_isWorking_2 (g : Zh) (r0 : Nat) (x1 : Int32) (h : Zh) : Option (Nat × Int32 × Zh) :=
  if zK g r0 = 12 then if (zI h r0 17) ≤ x1 then some (2, (x1, h)) else (zR h r0 25).bind fun r_2 => if zK g r_2 = 100 then if zin x1 (zL g r_2) then if (zI h r_2 x1.toNatClampNeg) = ((-2 : Int32)) then some (1, (x1, h)) else zlet (x1 + (1 : Int32)) fun y5 => some (0, (y5, h)) else none else none else none
def kX12_isWorking_2 (g : Zh) (r0 : Nat) (e : Nat) (x1 : Int32) (h : Zh) : Option (Int32 × Zh) :=
  if e = 1 then some ((0 : Int32), h) else if zK g r0 = 12 then zc2 (fX12_clashNow r0 h) fun v8 h7 => if v8 = ((-2 : Int32)) then some ((1 : Int32), h7) else some ((0 : Int32), h7) else none
def fX12_isWorking (r0 : Nat) (h : Zh) : Option (Int32 × Zh) := zlet h fun g =>
  (lp (fun q : Int32 × Zh => bX12_isWorking_2 g r0 q.1 q.2) zB ((0 : Int32), h)).bind fun q => kX12_isWorking_2 g r0 q.1 q.2.1 q.2.2
/-! FifthCardModel works -/
def fX12_works (r0 : Nat) (x1 : Int32) (h : Zh) : Option (Int32 × Zh) := zlet h fun g =>
  if zK g r0 = 12 then zlet (zsI h r0 0 ((0 : Int32))) fun h2 => zc2 (fX12_isRule r0 x1 h2) fun v4 h3 => if v4 = 0 then zc2 (fX12_refused r0 ((1 : Int32)) h3) fun v13 h12 => some (v13, h12) else (fX12_laysAll r0 x1 h3).bind fun h5 => zc2 (fX12_isWorking r0 h5) fun v7 h6 => if v7 = 0 then zc2 (fX12_good r0 ((0 : Int32)) h6) fun v9 h8 => some (v9, h8) else zc2 (fX12_good r0 ((1 : Int32)) h6) fun v11 h10 => some (v11, h10) else none
/-! FifthCardModel clash -/
def fX12_clash (r0 : Nat) (x1 : Int32) (x2 : Int32) (h : Zh) : Option (Int32 × Zh) := zlet h fun g =>
  if zK g r0 = 12 then zlet (zsI h r0 0 ((0 : Int32))) fun h2 => zc2 (fX12_isRule r0 x1 h2) fun v4 h3 => if v4 = 0 then zc2 (fX12_refused r0 ((1 : Int32)) h3) fun v20 h19 => some (v20, h19) else (fX12_laysAll r0 x1 h3).bind fun h5 => zc2 (fX12_clashNow r0 h5) fun v7 h6 => if v7 = ((-2 : Int32)) then zc2 (fX12_good r0 v7 h6) fun v9 h8 => some (v9, h8) else if x2 = 0 then zc2 (fX12_good r0 v7 h6) fun v18 h17 => some (v18, h17) else (zR h6 r0 25).bind fun r_10 => if zK g r_10 = 100 then if zin v7 (zL g r_10) then zc2 (fX12_firstWith r0 (zI h6 r_10 v7.toNatClampNeg) h6) fun v14 h13 => zc2 (fX12_good r0 v14 h13) fun v16 h15 => some (v16, h15) else none else none else none
/-! FifthCardModel laid -/
def bX12_laid_28 (g : Zh) (r0 : Nat) (x2 : Int32) (x3 : Int32) (h : Zh) : Option (Nat × Int32 × Int32 × Zh) :=
  if (zI h r0 17) ≤ x3 then some (1, (x2, (x3, h))) else (zR h r0 25).bind fun r_6 => if zK g r_6 = 100 then if zin x3 (zL g r_6) then if (zI h r_6 x3.toNatClampNeg) = ((-2 : Int32)) then zlet (x2 + ((0 : Int32))) fun y9 => zlet (x3 + (1 : Int32)) fun y10 => some (0, (y9, (y10, h))) else (zR h r0 25).bind fun r_11 => if zK g r_11 = 100 then if zin x3 (zL g r_11) then zc2 (fX12_firstWith r0 (zI h r_11 x3.toNatClampNeg) h) fun v15 h14 => if v15 = x3 then zlet (x2 + ((1 : Int32))) fun y18 => zlet (x3 + (1 : Int32)) fun y19 => some (0, (y18, (y19, h14))) else zlet (x2 + ((0 : Int32))) fun y16 => zlet (x3 + (1 : Int32)) fun y17 => some (0, (y16, (y17, h14))) else none else none else none else none
def kX12_laid_28 (g : Zh) (r0 : Nat) (e : Nat) (x2 : Int32) (x3 : Int32) (h : Zh) : Option (Int32 × Zh) :=
  zc2 (fX12_good r0 x2 h) fun v21 h20 => some (v21, h20)
def fX12_laid (r0 : Nat) (x1 : Int32) (h : Zh) : Option (Int32 × Zh) := zlet h fun g =>
  if zK g r0 = 12 then zlet (zsI h r0 0 ((0 : Int32))) fun h2 => zc2 (fX12_isRule r0 x1 h2) fun v4 h3 => if v4 = 0 then zc2 (fX12_refused r0 ((1 : Int32)) h3) fun v23 h22 => some (v23, h22) else (fX12_laysAll r0 x1 h3).bind fun h5 => (lp (fun q : Int32 × Int32 × Zh => bX12_laid_28 g r0 q.1 q.2.1 q.2.2) zB ((0 : Int32), ((0 : Int32), h5))).bind fun q => kX12_laid_28 g r0 q.1 q.2.1 q.2.2.1 q.2.2.2 else none
/-! FifthCardModel fails -/
def bX12_fails_28 (g : Zh) (r0 : Nat) (x2 : Int32) (x3 : Int32) (h : Zh) : Option (Nat × Int32 × Int32 × Zh) :=
  if (zI h r0 17) ≤ x3 then some (1, (x2, (x3, h))) else (zR h r0 25).bind fun r_6 => if zK g r_6 = 100 then if zin x3 (zL g r_6) then if (zI h r_6 x3.toNatClampNeg) = ((-2 : Int32)) then zlet (x2 + ((1 : Int32))) fun y11 => zlet (x3 + (1 : Int32)) fun y12 => some (0, (y11, (y12, h))) else zlet (x2 + ((0 : Int32))) fun y9 => zlet (x3 + (1 : Int32)) fun y10 => some (0, (y9, (y10, h))) else none else none
def kX12_fails_28 (g : Zh) (r0 : Nat) (e : Nat) (x2 : Int32) (x3 : Int32) (h : Zh) : Option (Int32 × Zh) :=
  zc2 (fX12_good r0 x2 h) fun v14 h13 => some (v14, h13)
def fX12_fails (r0 : Nat) (x1 : Int32) (h : Zh) : Option (Int32 × Zh) := zlet h fun g =>
  if zK g r0 = 12 then zlet (zsI h r0 0 ((0 : Int32))) fun h2 => zc2 (fX12_isRule r0 x1 h2) fun v4 h3 => if v4 = 0 then zc2 (fX12_refused r0 ((1 : Int32)) h3) fun v16 h15 => some (v16, h15) else (fX12_laysAll r0 x1 h3).bind fun h5 => (lp (fun q : Int32 × Int32 × Zh => bX12_fails_28 g r0 q.1 q.2.1 q.2.2) zB ((0 : Int32), ((0 : Int32), h5))).bind fun q => kX12_fails_28 g r0 q.1 q.2.1 q.2.2.1 q.2.2.2 else none
theorem dX12_isRule_0 : decode cX12_isRule 0 = .ok (.aload_n 0, 1) := by decide +kernel
theorem dX12_isRule_1 : decode cX12_isRule 1 = .ok (.getfield 329, 3) := by decide +kernel
theorem dX12_isRule_4 : decode cX12_isRule 4 = .ok (.ifnull 22, 3) := by decide +kernel
theorem dX12_isRule_7 : decode cX12_isRule 7 = .ok (.iload_n 1, 1) := by decide +kernel
theorem dX12_isRule_8 : decode cX12_isRule 8 = .ok (.ifCond .lt 18, 3) := by decide +kernel
theorem dX12_isRule_11 : decode cX12_isRule 11 = .ok (.iload_n 1, 1) := by decide +kernel
theorem dX12_isRule_12 : decode cX12_isRule 12 = .ok (.aload_n 0, 1) := by decide +kernel
theorem dX12_isRule_13 : decode cX12_isRule 13 = .ok (.getfield 329, 3) := by decide +kernel
theorem dX12_isRule_16 : decode cX12_isRule 16 = .ok (.getfield 259, 3) := by decide +kernel
theorem dX12_isRule_19 : decode cX12_isRule 19 = .ok (.if_icmp .ge 7, 3) := by decide +kernel
theorem dX12_isRule_22 : decode cX12_isRule 22 = .ok (.iconst 1, 1) := by decide +kernel
theorem dX12_isRule_23 : decode cX12_isRule 23 = .ok (.goto 4, 3) := by decide +kernel
theorem dX12_isRule_26 : decode cX12_isRule 26 = .ok (.iconst 0, 1) := by decide +kernel
theorem dX12_isRule_27 : decode cX12_isRule 27 = .ok (.ireturn, 1) := by decide +kernel
theorem dX12_lays_0 : decode cX12_lays 0 = .ok (.aload_n 0, 1) := by decide +kernel
theorem dX12_lays_1 : decode cX12_lays 1 = .ok (.iconst 0, 1) := by decide +kernel
theorem dX12_lays_2 : decode cX12_lays 2 = .ok (.putfield 86, 3) := by decide +kernel
theorem dX12_lays_5 : decode cX12_lays 5 = .ok (.aload_n 0, 1) := by decide +kernel
theorem dX12_lays_6 : decode cX12_lays 6 = .ok (.iload_n 1, 1) := by decide +kernel
theorem dX12_lays_7 : decode cX12_lays 7 = .ok (.invokevirtual 430, 3) := by decide +kernel
theorem dX12_lays_10 : decode cX12_lays 10 = .ok (.ifCond .eq 24, 3) := by decide +kernel
theorem dX12_lays_13 : decode cX12_lays 13 = .ok (.aload_n 0, 1) := by decide +kernel
theorem dX12_lays_14 : decode cX12_lays 14 = .ok (.iload_n 2, 1) := by decide +kernel
theorem dX12_lays_15 : decode cX12_lays 15 = .ok (.invokevirtual 375, 3) := by decide +kernel
theorem dX12_lays_18 : decode cX12_lays 18 = .ok (.ifCond .eq 16, 3) := by decide +kernel
theorem dX12_lays_21 : decode cX12_lays 21 = .ok (.aload_n 0, 1) := by decide +kernel
theorem dX12_lays_22 : decode cX12_lays 22 = .ok (.aload_n 0, 1) := by decide +kernel
theorem dX12_lays_23 : decode cX12_lays 23 = .ok (.iload_n 1, 1) := by decide +kernel
theorem dX12_lays_24 : decode cX12_lays 24 = .ok (.iload_n 2, 1) := by decide +kernel
theorem dX12_lays_25 : decode cX12_lays 25 = .ok (.invokevirtual 433, 3) := by decide +kernel
theorem dX12_lays_28 : decode cX12_lays 28 = .ok (.invokevirtual 96, 3) := by decide +kernel
theorem dX12_lays_31 : decode cX12_lays 31 = .ok (.goto 8, 3) := by decide +kernel
theorem dX12_lays_34 : decode cX12_lays 34 = .ok (.aload_n 0, 1) := by decide +kernel
theorem dX12_lays_35 : decode cX12_lays 35 = .ok (.iconst 1, 1) := by decide +kernel
theorem dX12_lays_36 : decode cX12_lays 36 = .ok (.invokevirtual 92, 3) := by decide +kernel
theorem dX12_lays_39 : decode cX12_lays 39 = .ok (.ireturn, 1) := by decide +kernel
theorem dX12_kept_0 : decode cX12_kept 0 = .ok (.aload_n 0, 1) := by decide +kernel
theorem dX12_kept_1 : decode cX12_kept 1 = .ok (.iconst 0, 1) := by decide +kernel
theorem dX12_kept_2 : decode cX12_kept 2 = .ok (.putfield 86, 3) := by decide +kernel
theorem dX12_kept_5 : decode cX12_kept 5 = .ok (.aload_n 0, 1) := by decide +kernel
theorem dX12_kept_6 : decode cX12_kept 6 = .ok (.iload_n 1, 1) := by decide +kernel
theorem dX12_kept_7 : decode cX12_kept 7 = .ok (.invokevirtual 430, 3) := by decide +kernel
theorem dX12_kept_10 : decode cX12_kept 10 = .ok (.ifCond .eq 28, 3) := by decide +kernel
theorem dX12_kept_13 : decode cX12_kept 13 = .ok (.aload_n 0, 1) := by decide +kernel
theorem dX12_kept_14 : decode cX12_kept 14 = .ok (.iload_n 2, 1) := by decide +kernel
theorem dX12_kept_15 : decode cX12_kept 15 = .ok (.invokevirtual 375, 3) := by decide +kernel
theorem dX12_kept_18 : decode cX12_kept 18 = .ok (.ifCond .eq 20, 3) := by decide +kernel
theorem dX12_kept_21 : decode cX12_kept 21 = .ok (.iload_n 3, 1) := by decide +kernel
theorem dX12_kept_22 : decode cX12_kept 22 = .ok (.iconst 0, 1) := by decide +kernel
theorem dX12_kept_23 : decode cX12_kept 23 = .ok (.aload_n 0, 1) := by decide +kernel
theorem dX12_kept_24 : decode cX12_kept 24 = .ok (.getfield 329, 3) := by decide +kernel
theorem dX12_kept_27 : decode cX12_kept 27 = .ok (.getfield 255, 3) := by decide +kernel
theorem dX12_kept_30 : decode cX12_kept 30 = .ok (.iconst 1, 1) := by decide +kernel
theorem dX12_kept_31 : decode cX12_kept 31 = .ok (.isub, 1) := by decide +kernel
theorem dX12_kept_32 : decode cX12_kept 32 = .ok (.invokestatic 168, 3) := by decide +kernel
theorem dX12_kept_35 : decode cX12_kept 35 = .ok (.ifCond .ne 9, 3) := by decide +kernel
theorem dX12_kept_38 : decode cX12_kept 38 = .ok (.aload_n 0, 1) := by decide +kernel
theorem dX12_kept_39 : decode cX12_kept 39 = .ok (.iconst 1, 1) := by decide +kernel
theorem dX12_kept_40 : decode cX12_kept 40 = .ok (.invokevirtual 92, 3) := by decide +kernel
theorem dX12_kept_43 : decode cX12_kept 43 = .ok (.ireturn, 1) := by decide +kernel
theorem dX12_kept_44 : decode cX12_kept 44 = .ok (.aload_n 0, 1) := by decide +kernel
theorem dX12_kept_45 : decode cX12_kept 45 = .ok (.iload_n 1, 1) := by decide +kernel
theorem dX12_kept_46 : decode cX12_kept 46 = .ok (.iload_n 2, 1) := by decide +kernel
theorem dX12_kept_47 : decode cX12_kept 47 = .ok (.invokevirtual 433, 3) := by decide +kernel
theorem dX12_kept_50 : decode cX12_kept 50 = .ok (.istore 4, 2) := by decide +kernel
theorem dX12_kept_52 : decode cX12_kept 52 = .ok (.iload 4, 2) := by decide +kernel
theorem dX12_kept_54 : decode cX12_kept 54 = .ok (.bipush (-2), 2) := by decide +kernel
theorem dX12_kept_56 : decode cX12_kept 56 = .ok (.if_icmp .ne 10, 3) := by decide +kernel
theorem dX12_kept_59 : decode cX12_kept 59 = .ok (.aload_n 0, 1) := by decide +kernel
theorem dX12_kept_60 : decode cX12_kept 60 = .ok (.bipush 6, 2) := by decide +kernel
theorem dX12_kept_62 : decode cX12_kept 62 = .ok (.invokevirtual 92, 3) := by decide +kernel
theorem dX12_kept_65 : decode cX12_kept 65 = .ok (.ireturn, 1) := by decide +kernel
theorem dX12_kept_66 : decode cX12_kept 66 = .ok (.aload_n 0, 1) := by decide +kernel
theorem dX12_kept_67 : decode cX12_kept 67 = .ok (.iload 4, 2) := by decide +kernel
theorem dX12_kept_69 : decode cX12_kept 69 = .ok (.aload_n 0, 1) := by decide +kernel
theorem dX12_kept_70 : decode cX12_kept 70 = .ok (.getfield 24, 3) := by decide +kernel
theorem dX12_kept_73 : decode cX12_kept 73 = .ok (.invokevirtual 381, 3) := by decide +kernel
theorem dX12_kept_76 : decode cX12_kept 76 = .ok (.iconst 0, 1) := by decide +kernel
theorem dX12_kept_77 : decode cX12_kept 77 = .ok (.istore 5, 2) := by decide +kernel
theorem dX12_kept_79 : decode cX12_kept 79 = .ok (.iconst 0, 1) := by decide +kernel
theorem dX12_kept_80 : decode cX12_kept 80 = .ok (.istore 6, 2) := by decide +kernel
theorem dX12_kept_82 : decode cX12_kept 82 = .ok (.iload 6, 2) := by decide +kernel
theorem dX12_kept_84 : decode cX12_kept 84 = .ok (.aload_n 0, 1) := by decide +kernel
theorem dX12_kept_85 : decode cX12_kept 85 = .ok (.getfield 329, 3) := by decide +kernel
theorem dX12_kept_88 : decode cX12_kept 88 = .ok (.getfield 194, 3) := by decide +kernel
theorem dX12_kept_91 : decode cX12_kept 91 = .ok (.if_icmp .ge 87, 3) := by decide +kernel
theorem dX12_kept_94 : decode cX12_kept 94 = .ok (.aload_n 0, 1) := by decide +kernel
theorem dX12_kept_95 : decode cX12_kept 95 = .ok (.iload_n 2, 1) := by decide +kernel
theorem dX12_kept_96 : decode cX12_kept 96 = .ok (.iload 6, 2) := by decide +kernel
theorem dX12_kept_98 : decode cX12_kept 98 = .ok (.invokevirtual 369, 3) := by decide +kernel
theorem dX12_kept_101 : decode cX12_kept 101 = .ok (.istore 7, 2) := by decide +kernel
theorem dX12_kept_103 : decode cX12_kept 103 = .ok (.iconst 0, 1) := by decide +kernel
theorem dX12_kept_104 : decode cX12_kept 104 = .ok (.istore 8, 2) := by decide +kernel
theorem dX12_kept_106 : decode cX12_kept 106 = .ok (.iload 8, 2) := by decide +kernel
theorem dX12_kept_108 : decode cX12_kept 108 = .ok (.aload_n 0, 1) := by decide +kernel
theorem dX12_kept_109 : decode cX12_kept 109 = .ok (.getfield 329, 3) := by decide +kernel
theorem dX12_kept_112 : decode cX12_kept 112 = .ok (.getfield 257, 3) := by decide +kernel
theorem dX12_kept_115 : decode cX12_kept 115 = .ok (.if_icmp .ge 33, 3) := by decide +kernel
theorem dX12_kept_118 : decode cX12_kept 118 = .ok (.iload 7, 2) := by decide +kernel
theorem dX12_kept_120 : decode cX12_kept 120 = .ok (.ifCond .eq 19, 3) := by decide +kernel
theorem dX12_kept_123 : decode cX12_kept 123 = .ok (.aload_n 0, 1) := by decide +kernel
theorem dX12_kept_124 : decode cX12_kept 124 = .ok (.getfield 24, 3) := by decide +kernel
theorem dX12_kept_127 : decode cX12_kept 127 = .ok (.iload 8, 2) := by decide +kernel
theorem dX12_kept_129 : decode cX12_kept 129 = .ok (.iaload, 1) := by decide +kernel
theorem dX12_kept_130 : decode cX12_kept 130 = .ok (.iload 6, 2) := by decide +kernel
theorem dX12_kept_132 : decode cX12_kept 132 = .ok (.if_icmp .eq 7, 3) := by decide +kernel
theorem dX12_kept_135 : decode cX12_kept 135 = .ok (.iconst 1, 1) := by decide +kernel
theorem dX12_kept_136 : decode cX12_kept 136 = .ok (.goto 4, 3) := by decide +kernel
theorem dX12_kept_139 : decode cX12_kept 139 = .ok (.iconst 0, 1) := by decide +kernel
theorem dX12_kept_140 : decode cX12_kept 140 = .ok (.istore 7, 2) := by decide +kernel
theorem dX12_kept_142 : decode cX12_kept 142 = .ok (.iinc 8 1, 3) := by decide +kernel
theorem dX12_kept_145 : decode cX12_kept 145 = .ok (.goto (-39), 3) := by decide +kernel
theorem dX12_kept_148 : decode cX12_kept 148 = .ok (.iload 7, 2) := by decide +kernel
theorem dX12_kept_150 : decode cX12_kept 150 = .ok (.ifCond .ne 6, 3) := by decide +kernel
theorem dX12_kept_153 : decode cX12_kept 153 = .ok (.goto 19, 3) := by decide +kernel
theorem dX12_kept_156 : decode cX12_kept 156 = .ok (.iload 5, 2) := by decide +kernel
theorem dX12_kept_158 : decode cX12_kept 158 = .ok (.iload_n 3, 1) := by decide +kernel
theorem dX12_kept_159 : decode cX12_kept 159 = .ok (.if_icmp .ne 10, 3) := by decide +kernel
theorem dX12_kept_162 : decode cX12_kept 162 = .ok (.aload_n 0, 1) := by decide +kernel
theorem dX12_kept_163 : decode cX12_kept 163 = .ok (.iload 6, 2) := by decide +kernel
theorem dX12_kept_165 : decode cX12_kept 165 = .ok (.invokevirtual 96, 3) := by decide +kernel
theorem dX12_kept_168 : decode cX12_kept 168 = .ok (.ireturn, 1) := by decide +kernel
theorem dX12_kept_169 : decode cX12_kept 169 = .ok (.iinc 5 1, 3) := by decide +kernel
theorem dX12_kept_172 : decode cX12_kept 172 = .ok (.iinc 6 1, 3) := by decide +kernel
theorem dX12_kept_175 : decode cX12_kept 175 = .ok (.goto (-93), 3) := by decide +kernel
theorem dX12_kept_178 : decode cX12_kept 178 = .ok (.aload_n 0, 1) := by decide +kernel
theorem dX12_kept_179 : decode cX12_kept 179 = .ok (.iconst 1, 1) := by decide +kernel
theorem dX12_kept_180 : decode cX12_kept 180 = .ok (.invokevirtual 92, 3) := by decide +kernel
theorem dX12_kept_183 : decode cX12_kept 183 = .ok (.ireturn, 1) := by decide +kernel
theorem dX12_laysAll_0 : decode cX12_laysAll 0 = .ok (.iconst 0, 1) := by decide +kernel
theorem dX12_laysAll_1 : decode cX12_laysAll 1 = .ok (.istore_n 2, 1) := by decide +kernel
theorem dX12_laysAll_2 : decode cX12_laysAll 2 = .ok (.iload_n 2, 1) := by decide +kernel
theorem dX12_laysAll_3 : decode cX12_laysAll 3 = .ok (.aload_n 0, 1) := by decide +kernel
theorem dX12_laysAll_4 : decode cX12_laysAll 4 = .ok (.getfield 356, 3) := by decide +kernel
theorem dX12_laysAll_7 : decode cX12_laysAll 7 = .ok (.if_icmp .ge 21, 3) := by decide +kernel
theorem dX12_laysAll_10 : decode cX12_laysAll 10 = .ok (.aload_n 0, 1) := by decide +kernel
theorem dX12_laysAll_11 : decode cX12_laysAll 11 = .ok (.getfield 36, 3) := by decide +kernel
theorem dX12_laysAll_14 : decode cX12_laysAll 14 = .ok (.iload_n 2, 1) := by decide +kernel
theorem dX12_laysAll_15 : decode cX12_laysAll 15 = .ok (.aload_n 0, 1) := by decide +kernel
theorem dX12_laysAll_16 : decode cX12_laysAll 16 = .ok (.iload_n 1, 1) := by decide +kernel
theorem dX12_laysAll_17 : decode cX12_laysAll 17 = .ok (.iload_n 2, 1) := by decide +kernel
theorem dX12_laysAll_18 : decode cX12_laysAll 18 = .ok (.invokevirtual 433, 3) := by decide +kernel
theorem dX12_laysAll_21 : decode cX12_laysAll 21 = .ok (.iastore, 1) := by decide +kernel
theorem dX12_laysAll_22 : decode cX12_laysAll 22 = .ok (.iinc 2 1, 3) := by decide +kernel
theorem dX12_laysAll_25 : decode cX12_laysAll 25 = .ok (.goto (-23), 3) := by decide +kernel
theorem dX12_laysAll_28 : decode cX12_laysAll 28 = .ok (.return_, 1) := by decide +kernel
theorem dX12_laysAllWords_0 : decode cX12_laysAllWords 0 = .ok (.iconst 0, 1) := by decide +kernel
theorem dX12_laysAllWords_1 : decode cX12_laysAllWords 1 = .ok (.istore_n 2, 1) := by decide +kernel
theorem dX12_laysAllWords_2 : decode cX12_laysAllWords 2 = .ok (.iload_n 2, 1) := by decide +kernel
theorem dX12_laysAllWords_3 : decode cX12_laysAllWords 3 = .ok (.aload_n 0, 1) := by decide +kernel
theorem dX12_laysAllWords_4 : decode cX12_laysAllWords 4 = .ok (.getfield 356, 3) := by decide +kernel
theorem dX12_laysAllWords_7 : decode cX12_laysAllWords 7 = .ok (.if_icmp .ge 21, 3) := by decide +kernel
theorem dX12_laysAllWords_10 : decode cX12_laysAllWords 10 = .ok (.aload_n 0, 1) := by decide +kernel
theorem dX12_laysAllWords_11 : decode cX12_laysAllWords 11 = .ok (.getfield 36, 3) := by decide +kernel
theorem dX12_laysAllWords_14 : decode cX12_laysAllWords 14 = .ok (.iload_n 2, 1) := by decide +kernel
theorem dX12_laysAllWords_15 : decode cX12_laysAllWords 15 = .ok (.aload_n 0, 1) := by decide +kernel
theorem dX12_laysAllWords_16 : decode cX12_laysAllWords 16 = .ok (.iload_n 1, 1) := by decide +kernel
theorem dX12_laysAllWords_17 : decode cX12_laysAllWords 17 = .ok (.iload_n 2, 1) := by decide +kernel
theorem dX12_laysAllWords_18 : decode cX12_laysAllWords 18 = .ok (.invokevirtual 421, 3) := by decide +kernel
theorem dX12_laysAllWords_21 : decode cX12_laysAllWords 21 = .ok (.iastore, 1) := by decide +kernel
theorem dX12_laysAllWords_22 : decode cX12_laysAllWords 22 = .ok (.iinc 2 1, 3) := by decide +kernel
theorem dX12_laysAllWords_25 : decode cX12_laysAllWords 25 = .ok (.goto (-23), 3) := by decide +kernel
theorem dX12_laysAllWords_28 : decode cX12_laysAllWords 28 = .ok (.return_, 1) := by decide +kernel
theorem dX12_firstWith_0 : decode cX12_firstWith 0 = .ok (.iconst 0, 1) := by decide +kernel
theorem dX12_firstWith_1 : decode cX12_firstWith 1 = .ok (.istore_n 2, 1) := by decide +kernel
theorem dX12_firstWith_2 : decode cX12_firstWith 2 = .ok (.iload_n 2, 1) := by decide +kernel
theorem dX12_firstWith_3 : decode cX12_firstWith 3 = .ok (.aload_n 0, 1) := by decide +kernel
theorem dX12_firstWith_4 : decode cX12_firstWith 4 = .ok (.getfield 356, 3) := by decide +kernel
theorem dX12_firstWith_7 : decode cX12_firstWith 7 = .ok (.if_icmp .ge 21, 3) := by decide +kernel
theorem dX12_firstWith_10 : decode cX12_firstWith 10 = .ok (.aload_n 0, 1) := by decide +kernel
theorem dX12_firstWith_11 : decode cX12_firstWith 11 = .ok (.getfield 36, 3) := by decide +kernel
theorem dX12_firstWith_14 : decode cX12_firstWith 14 = .ok (.iload_n 2, 1) := by decide +kernel
theorem dX12_firstWith_15 : decode cX12_firstWith 15 = .ok (.iaload, 1) := by decide +kernel
theorem dX12_firstWith_16 : decode cX12_firstWith 16 = .ok (.iload_n 1, 1) := by decide +kernel
theorem dX12_firstWith_17 : decode cX12_firstWith 17 = .ok (.if_icmp .ne 5, 3) := by decide +kernel
theorem dX12_firstWith_20 : decode cX12_firstWith 20 = .ok (.iload_n 2, 1) := by decide +kernel
theorem dX12_firstWith_21 : decode cX12_firstWith 21 = .ok (.ireturn, 1) := by decide +kernel
theorem dX12_firstWith_22 : decode cX12_firstWith 22 = .ok (.iinc 2 1, 3) := by decide +kernel
theorem dX12_firstWith_25 : decode cX12_firstWith 25 = .ok (.goto (-23), 3) := by decide +kernel
theorem dX12_firstWith_28 : decode cX12_firstWith 28 = .ok (.bipush (-2), 2) := by decide +kernel
theorem dX12_firstWith_30 : decode cX12_firstWith 30 = .ok (.ireturn, 1) := by decide +kernel
theorem dX12_says_0 : decode cX12_says 0 = .ok (.aload_n 0, 1) := by decide +kernel
theorem dX12_says_1 : decode cX12_says 1 = .ok (.iconst 0, 1) := by decide +kernel
theorem dX12_says_2 : decode cX12_says 2 = .ok (.putfield 86, 3) := by decide +kernel
theorem dX12_says_5 : decode cX12_says 5 = .ok (.aload_n 0, 1) := by decide +kernel
theorem dX12_says_6 : decode cX12_says 6 = .ok (.iload_n 1, 1) := by decide +kernel
theorem dX12_says_7 : decode cX12_says 7 = .ok (.invokevirtual 430, 3) := by decide +kernel
theorem dX12_says_10 : decode cX12_says 10 = .ok (.ifCond .eq 11, 3) := by decide +kernel
theorem dX12_says_13 : decode cX12_says 13 = .ok (.aload_n 0, 1) := by decide +kernel
theorem dX12_says_14 : decode cX12_says 14 = .ok (.iload_n 2, 1) := by decide +kernel
theorem dX12_says_15 : decode cX12_says 15 = .ok (.invokevirtual 378, 3) := by decide +kernel
theorem dX12_says_18 : decode cX12_says 18 = .ok (.ifCond .ne 9, 3) := by decide +kernel
theorem dX12_says_21 : decode cX12_says 21 = .ok (.aload_n 0, 1) := by decide +kernel
theorem dX12_says_22 : decode cX12_says 22 = .ok (.iconst 1, 1) := by decide +kernel
theorem dX12_says_23 : decode cX12_says 23 = .ok (.invokevirtual 92, 3) := by decide +kernel
theorem dX12_says_26 : decode cX12_says 26 = .ok (.ireturn, 1) := by decide +kernel
theorem dX12_says_27 : decode cX12_says 27 = .ok (.aload_n 0, 1) := by decide +kernel
theorem dX12_says_28 : decode cX12_says 28 = .ok (.iload_n 1, 1) := by decide +kernel
theorem dX12_says_29 : decode cX12_says 29 = .ok (.invokevirtual 436, 3) := by decide +kernel
theorem dX12_says_32 : decode cX12_says 32 = .ok (.aload_n 0, 1) := by decide +kernel
theorem dX12_says_33 : decode cX12_says 33 = .ok (.aload_n 0, 1) := by decide +kernel
theorem dX12_says_34 : decode cX12_says 34 = .ok (.iload_n 2, 1) := by decide +kernel
theorem dX12_says_35 : decode cX12_says 35 = .ok (.invokevirtual 439, 3) := by decide +kernel
theorem dX12_says_38 : decode cX12_says 38 = .ok (.invokevirtual 96, 3) := by decide +kernel
theorem dX12_says_41 : decode cX12_says 41 = .ok (.ireturn, 1) := by decide +kernel
theorem dX12_clashNow_0 : decode cX12_clashNow 0 = .ok (.iconst 0, 1) := by decide +kernel
theorem dX12_clashNow_1 : decode cX12_clashNow 1 = .ok (.istore_n 1, 1) := by decide +kernel
theorem dX12_clashNow_2 : decode cX12_clashNow 2 = .ok (.iload_n 1, 1) := by decide +kernel
theorem dX12_clashNow_3 : decode cX12_clashNow 3 = .ok (.aload_n 0, 1) := by decide +kernel
theorem dX12_clashNow_4 : decode cX12_clashNow 4 = .ok (.getfield 356, 3) := by decide +kernel
theorem dX12_clashNow_7 : decode cX12_clashNow 7 = .ok (.if_icmp .ge 36, 3) := by decide +kernel
theorem dX12_clashNow_10 : decode cX12_clashNow 10 = .ok (.aload_n 0, 1) := by decide +kernel
theorem dX12_clashNow_11 : decode cX12_clashNow 11 = .ok (.getfield 36, 3) := by decide +kernel
theorem dX12_clashNow_14 : decode cX12_clashNow 14 = .ok (.iload_n 1, 1) := by decide +kernel
theorem dX12_clashNow_15 : decode cX12_clashNow 15 = .ok (.iaload, 1) := by decide +kernel
theorem dX12_clashNow_16 : decode cX12_clashNow 16 = .ok (.bipush (-2), 2) := by decide +kernel
theorem dX12_clashNow_18 : decode cX12_clashNow 18 = .ok (.if_icmp .eq 19, 3) := by decide +kernel
theorem dX12_clashNow_21 : decode cX12_clashNow 21 = .ok (.aload_n 0, 1) := by decide +kernel
theorem dX12_clashNow_22 : decode cX12_clashNow 22 = .ok (.aload_n 0, 1) := by decide +kernel
theorem dX12_clashNow_23 : decode cX12_clashNow 23 = .ok (.getfield 36, 3) := by decide +kernel
theorem dX12_clashNow_26 : decode cX12_clashNow 26 = .ok (.iload_n 1, 1) := by decide +kernel
theorem dX12_clashNow_27 : decode cX12_clashNow 27 = .ok (.iaload, 1) := by decide +kernel
theorem dX12_clashNow_28 : decode cX12_clashNow 28 = .ok (.invokevirtual 439, 3) := by decide +kernel
theorem dX12_clashNow_31 : decode cX12_clashNow 31 = .ok (.iload_n 1, 1) := by decide +kernel
theorem dX12_clashNow_32 : decode cX12_clashNow 32 = .ok (.if_icmp .ge 5, 3) := by decide +kernel
theorem dX12_clashNow_35 : decode cX12_clashNow 35 = .ok (.iload_n 1, 1) := by decide +kernel
theorem dX12_clashNow_36 : decode cX12_clashNow 36 = .ok (.ireturn, 1) := by decide +kernel
theorem dX12_clashNow_37 : decode cX12_clashNow 37 = .ok (.iinc 1 1, 3) := by decide +kernel
theorem dX12_clashNow_40 : decode cX12_clashNow 40 = .ok (.goto (-38), 3) := by decide +kernel
theorem dX12_clashNow_43 : decode cX12_clashNow 43 = .ok (.bipush (-2), 2) := by decide +kernel
theorem dX12_clashNow_45 : decode cX12_clashNow 45 = .ok (.ireturn, 1) := by decide +kernel
theorem dX12_isWorking_0 : decode cX12_isWorking 0 = .ok (.iconst 0, 1) := by decide +kernel
theorem dX12_isWorking_1 : decode cX12_isWorking 1 = .ok (.istore_n 1, 1) := by decide +kernel
theorem dX12_isWorking_2 : decode cX12_isWorking 2 = .ok (.iload_n 1, 1) := by decide +kernel
theorem dX12_isWorking_3 : decode cX12_isWorking 3 = .ok (.aload_n 0, 1) := by decide +kernel
theorem dX12_isWorking_4 : decode cX12_isWorking 4 = .ok (.getfield 356, 3) := by decide +kernel
theorem dX12_isWorking_7 : decode cX12_isWorking 7 = .ok (.if_icmp .ge 22, 3) := by decide +kernel
theorem dX12_isWorking_10 : decode cX12_isWorking 10 = .ok (.aload_n 0, 1) := by decide +kernel
theorem dX12_isWorking_11 : decode cX12_isWorking 11 = .ok (.getfield 36, 3) := by decide +kernel
theorem dX12_isWorking_14 : decode cX12_isWorking 14 = .ok (.iload_n 1, 1) := by decide +kernel
theorem dX12_isWorking_15 : decode cX12_isWorking 15 = .ok (.iaload, 1) := by decide +kernel
theorem dX12_isWorking_16 : decode cX12_isWorking 16 = .ok (.bipush (-2), 2) := by decide +kernel
theorem dX12_isWorking_18 : decode cX12_isWorking 18 = .ok (.if_icmp .ne 5, 3) := by decide +kernel
theorem dX12_isWorking_21 : decode cX12_isWorking 21 = .ok (.iconst 0, 1) := by decide +kernel
theorem dX12_isWorking_22 : decode cX12_isWorking 22 = .ok (.ireturn, 1) := by decide +kernel
theorem dX12_isWorking_23 : decode cX12_isWorking 23 = .ok (.iinc 1 1, 3) := by decide +kernel
theorem dX12_isWorking_26 : decode cX12_isWorking 26 = .ok (.goto (-24), 3) := by decide +kernel
theorem dX12_isWorking_29 : decode cX12_isWorking 29 = .ok (.aload_n 0, 1) := by decide +kernel
theorem dX12_isWorking_30 : decode cX12_isWorking 30 = .ok (.invokevirtual 442, 3) := by decide +kernel
theorem dX12_isWorking_33 : decode cX12_isWorking 33 = .ok (.bipush (-2), 2) := by decide +kernel
theorem dX12_isWorking_35 : decode cX12_isWorking 35 = .ok (.if_icmp .ne 7, 3) := by decide +kernel
theorem dX12_isWorking_38 : decode cX12_isWorking 38 = .ok (.iconst 1, 1) := by decide +kernel
theorem dX12_isWorking_39 : decode cX12_isWorking 39 = .ok (.goto 4, 3) := by decide +kernel
theorem dX12_isWorking_42 : decode cX12_isWorking 42 = .ok (.iconst 0, 1) := by decide +kernel
theorem dX12_isWorking_43 : decode cX12_isWorking 43 = .ok (.ireturn, 1) := by decide +kernel
theorem dX12_works_0 : decode cX12_works 0 = .ok (.aload_n 0, 1) := by decide +kernel
theorem dX12_works_1 : decode cX12_works 1 = .ok (.iconst 0, 1) := by decide +kernel
theorem dX12_works_2 : decode cX12_works 2 = .ok (.putfield 86, 3) := by decide +kernel
theorem dX12_works_5 : decode cX12_works 5 = .ok (.aload_n 0, 1) := by decide +kernel
theorem dX12_works_6 : decode cX12_works 6 = .ok (.iload_n 1, 1) := by decide +kernel
theorem dX12_works_7 : decode cX12_works 7 = .ok (.invokevirtual 430, 3) := by decide +kernel
theorem dX12_works_10 : decode cX12_works 10 = .ok (.ifCond .ne 9, 3) := by decide +kernel
theorem dX12_works_13 : decode cX12_works 13 = .ok (.aload_n 0, 1) := by decide +kernel
theorem dX12_works_14 : decode cX12_works 14 = .ok (.iconst 1, 1) := by decide +kernel
theorem dX12_works_15 : decode cX12_works 15 = .ok (.invokevirtual 92, 3) := by decide +kernel
theorem dX12_works_18 : decode cX12_works 18 = .ok (.ireturn, 1) := by decide +kernel
theorem dX12_works_19 : decode cX12_works 19 = .ok (.aload_n 0, 1) := by decide +kernel
theorem dX12_works_20 : decode cX12_works 20 = .ok (.iload_n 1, 1) := by decide +kernel
theorem dX12_works_21 : decode cX12_works 21 = .ok (.invokevirtual 436, 3) := by decide +kernel
theorem dX12_works_24 : decode cX12_works 24 = .ok (.aload_n 0, 1) := by decide +kernel
theorem dX12_works_25 : decode cX12_works 25 = .ok (.aload_n 0, 1) := by decide +kernel
theorem dX12_works_26 : decode cX12_works 26 = .ok (.invokevirtual 445, 3) := by decide +kernel
theorem dX12_works_29 : decode cX12_works 29 = .ok (.ifCond .eq 7, 3) := by decide +kernel
theorem dX12_works_32 : decode cX12_works 32 = .ok (.iconst 1, 1) := by decide +kernel
theorem dX12_works_33 : decode cX12_works 33 = .ok (.goto 4, 3) := by decide +kernel
theorem dX12_works_36 : decode cX12_works 36 = .ok (.iconst 0, 1) := by decide +kernel
theorem dX12_works_37 : decode cX12_works 37 = .ok (.invokevirtual 96, 3) := by decide +kernel
theorem dX12_works_40 : decode cX12_works 40 = .ok (.ireturn, 1) := by decide +kernel
theorem dX12_clash_0 : decode cX12_clash 0 = .ok (.aload_n 0, 1) := by decide +kernel
theorem dX12_clash_1 : decode cX12_clash 1 = .ok (.iconst 0, 1) := by decide +kernel
theorem dX12_clash_2 : decode cX12_clash 2 = .ok (.putfield 86, 3) := by decide +kernel
theorem dX12_clash_5 : decode cX12_clash 5 = .ok (.aload_n 0, 1) := by decide +kernel
theorem dX12_clash_6 : decode cX12_clash 6 = .ok (.iload_n 1, 1) := by decide +kernel
theorem dX12_clash_7 : decode cX12_clash 7 = .ok (.invokevirtual 430, 3) := by decide +kernel
theorem dX12_clash_10 : decode cX12_clash 10 = .ok (.ifCond .ne 9, 3) := by decide +kernel
theorem dX12_clash_13 : decode cX12_clash 13 = .ok (.aload_n 0, 1) := by decide +kernel
theorem dX12_clash_14 : decode cX12_clash 14 = .ok (.iconst 1, 1) := by decide +kernel
theorem dX12_clash_15 : decode cX12_clash 15 = .ok (.invokevirtual 92, 3) := by decide +kernel
theorem dX12_clash_18 : decode cX12_clash 18 = .ok (.ireturn, 1) := by decide +kernel
theorem dX12_clash_19 : decode cX12_clash 19 = .ok (.aload_n 0, 1) := by decide +kernel
theorem dX12_clash_20 : decode cX12_clash 20 = .ok (.iload_n 1, 1) := by decide +kernel
theorem dX12_clash_21 : decode cX12_clash 21 = .ok (.invokevirtual 436, 3) := by decide +kernel
theorem dX12_clash_24 : decode cX12_clash 24 = .ok (.aload_n 0, 1) := by decide +kernel
theorem dX12_clash_25 : decode cX12_clash 25 = .ok (.invokevirtual 442, 3) := by decide +kernel
theorem dX12_clash_28 : decode cX12_clash 28 = .ok (.istore_n 3, 1) := by decide +kernel
theorem dX12_clash_29 : decode cX12_clash 29 = .ok (.aload_n 0, 1) := by decide +kernel
theorem dX12_clash_30 : decode cX12_clash 30 = .ok (.iload_n 3, 1) := by decide +kernel
theorem dX12_clash_31 : decode cX12_clash 31 = .ok (.bipush (-2), 2) := by decide +kernel
theorem dX12_clash_33 : decode cX12_clash 33 = .ok (.if_icmp .eq 7, 3) := by decide +kernel
theorem dX12_clash_36 : decode cX12_clash 36 = .ok (.iload_n 2, 1) := by decide +kernel
theorem dX12_clash_37 : decode cX12_clash 37 = .ok (.ifCond .ne 7, 3) := by decide +kernel
theorem dX12_clash_40 : decode cX12_clash 40 = .ok (.iload_n 3, 1) := by decide +kernel
theorem dX12_clash_41 : decode cX12_clash 41 = .ok (.goto 13, 3) := by decide +kernel
theorem dX12_clash_44 : decode cX12_clash 44 = .ok (.aload_n 0, 1) := by decide +kernel
theorem dX12_clash_45 : decode cX12_clash 45 = .ok (.aload_n 0, 1) := by decide +kernel
theorem dX12_clash_46 : decode cX12_clash 46 = .ok (.getfield 36, 3) := by decide +kernel
theorem dX12_clash_49 : decode cX12_clash 49 = .ok (.iload_n 3, 1) := by decide +kernel
theorem dX12_clash_50 : decode cX12_clash 50 = .ok (.iaload, 1) := by decide +kernel
theorem dX12_clash_51 : decode cX12_clash 51 = .ok (.invokevirtual 439, 3) := by decide +kernel
theorem dX12_clash_54 : decode cX12_clash 54 = .ok (.invokevirtual 96, 3) := by decide +kernel
theorem dX12_clash_57 : decode cX12_clash 57 = .ok (.ireturn, 1) := by decide +kernel
theorem dX12_laid_0 : decode cX12_laid 0 = .ok (.aload_n 0, 1) := by decide +kernel
theorem dX12_laid_1 : decode cX12_laid 1 = .ok (.iconst 0, 1) := by decide +kernel
theorem dX12_laid_2 : decode cX12_laid 2 = .ok (.putfield 86, 3) := by decide +kernel
theorem dX12_laid_5 : decode cX12_laid 5 = .ok (.aload_n 0, 1) := by decide +kernel
theorem dX12_laid_6 : decode cX12_laid 6 = .ok (.iload_n 1, 1) := by decide +kernel
theorem dX12_laid_7 : decode cX12_laid 7 = .ok (.invokevirtual 430, 3) := by decide +kernel
theorem dX12_laid_10 : decode cX12_laid 10 = .ok (.ifCond .ne 9, 3) := by decide +kernel
theorem dX12_laid_13 : decode cX12_laid 13 = .ok (.aload_n 0, 1) := by decide +kernel
theorem dX12_laid_14 : decode cX12_laid 14 = .ok (.iconst 1, 1) := by decide +kernel
theorem dX12_laid_15 : decode cX12_laid 15 = .ok (.invokevirtual 92, 3) := by decide +kernel
theorem dX12_laid_18 : decode cX12_laid 18 = .ok (.ireturn, 1) := by decide +kernel
theorem dX12_laid_19 : decode cX12_laid 19 = .ok (.aload_n 0, 1) := by decide +kernel
theorem dX12_laid_20 : decode cX12_laid 20 = .ok (.iload_n 1, 1) := by decide +kernel
theorem dX12_laid_21 : decode cX12_laid 21 = .ok (.invokevirtual 436, 3) := by decide +kernel
theorem dX12_laid_24 : decode cX12_laid 24 = .ok (.iconst 0, 1) := by decide +kernel
theorem dX12_laid_25 : decode cX12_laid 25 = .ok (.istore_n 2, 1) := by decide +kernel
theorem dX12_laid_26 : decode cX12_laid 26 = .ok (.iconst 0, 1) := by decide +kernel
theorem dX12_laid_27 : decode cX12_laid 27 = .ok (.istore_n 3, 1) := by decide +kernel
theorem dX12_laid_28 : decode cX12_laid 28 = .ok (.iload_n 3, 1) := by decide +kernel
theorem dX12_laid_29 : decode cX12_laid 29 = .ok (.aload_n 0, 1) := by decide +kernel
theorem dX12_laid_30 : decode cX12_laid 30 = .ok (.getfield 356, 3) := by decide +kernel
theorem dX12_laid_33 : decode cX12_laid 33 = .ok (.if_icmp .ge 42, 3) := by decide +kernel
theorem dX12_laid_36 : decode cX12_laid 36 = .ok (.iload_n 2, 1) := by decide +kernel
theorem dX12_laid_37 : decode cX12_laid 37 = .ok (.aload_n 0, 1) := by decide +kernel
theorem dX12_laid_38 : decode cX12_laid 38 = .ok (.getfield 36, 3) := by decide +kernel
theorem dX12_laid_41 : decode cX12_laid 41 = .ok (.iload_n 3, 1) := by decide +kernel
theorem dX12_laid_42 : decode cX12_laid 42 = .ok (.iaload, 1) := by decide +kernel
theorem dX12_laid_43 : decode cX12_laid 43 = .ok (.bipush (-2), 2) := by decide +kernel
theorem dX12_laid_45 : decode cX12_laid 45 = .ok (.if_icmp .eq 21, 3) := by decide +kernel
theorem dX12_laid_48 : decode cX12_laid 48 = .ok (.aload_n 0, 1) := by decide +kernel
theorem dX12_laid_49 : decode cX12_laid 49 = .ok (.aload_n 0, 1) := by decide +kernel
theorem dX12_laid_50 : decode cX12_laid 50 = .ok (.getfield 36, 3) := by decide +kernel
theorem dX12_laid_53 : decode cX12_laid 53 = .ok (.iload_n 3, 1) := by decide +kernel
theorem dX12_laid_54 : decode cX12_laid 54 = .ok (.iaload, 1) := by decide +kernel
theorem dX12_laid_55 : decode cX12_laid 55 = .ok (.invokevirtual 439, 3) := by decide +kernel
theorem dX12_laid_58 : decode cX12_laid 58 = .ok (.iload_n 3, 1) := by decide +kernel
theorem dX12_laid_59 : decode cX12_laid 59 = .ok (.if_icmp .ne 7, 3) := by decide +kernel
theorem dX12_laid_62 : decode cX12_laid 62 = .ok (.iconst 1, 1) := by decide +kernel
theorem dX12_laid_63 : decode cX12_laid 63 = .ok (.goto 4, 3) := by decide +kernel
theorem dX12_laid_66 : decode cX12_laid 66 = .ok (.iconst 0, 1) := by decide +kernel
theorem dX12_laid_67 : decode cX12_laid 67 = .ok (.iadd, 1) := by decide +kernel
theorem dX12_laid_68 : decode cX12_laid 68 = .ok (.istore_n 2, 1) := by decide +kernel
theorem dX12_laid_69 : decode cX12_laid 69 = .ok (.iinc 3 1, 3) := by decide +kernel
theorem dX12_laid_72 : decode cX12_laid 72 = .ok (.goto (-44), 3) := by decide +kernel
theorem dX12_laid_75 : decode cX12_laid 75 = .ok (.aload_n 0, 1) := by decide +kernel
theorem dX12_laid_76 : decode cX12_laid 76 = .ok (.iload_n 2, 1) := by decide +kernel
theorem dX12_laid_77 : decode cX12_laid 77 = .ok (.invokevirtual 96, 3) := by decide +kernel
theorem dX12_laid_80 : decode cX12_laid 80 = .ok (.ireturn, 1) := by decide +kernel
theorem dX12_fails_0 : decode cX12_fails 0 = .ok (.aload_n 0, 1) := by decide +kernel
theorem dX12_fails_1 : decode cX12_fails 1 = .ok (.iconst 0, 1) := by decide +kernel
theorem dX12_fails_2 : decode cX12_fails 2 = .ok (.putfield 86, 3) := by decide +kernel
theorem dX12_fails_5 : decode cX12_fails 5 = .ok (.aload_n 0, 1) := by decide +kernel
theorem dX12_fails_6 : decode cX12_fails 6 = .ok (.iload_n 1, 1) := by decide +kernel
theorem dX12_fails_7 : decode cX12_fails 7 = .ok (.invokevirtual 430, 3) := by decide +kernel
theorem dX12_fails_10 : decode cX12_fails 10 = .ok (.ifCond .ne 9, 3) := by decide +kernel
theorem dX12_fails_13 : decode cX12_fails 13 = .ok (.aload_n 0, 1) := by decide +kernel
theorem dX12_fails_14 : decode cX12_fails 14 = .ok (.iconst 1, 1) := by decide +kernel
theorem dX12_fails_15 : decode cX12_fails 15 = .ok (.invokevirtual 92, 3) := by decide +kernel
theorem dX12_fails_18 : decode cX12_fails 18 = .ok (.ireturn, 1) := by decide +kernel
theorem dX12_fails_19 : decode cX12_fails 19 = .ok (.aload_n 0, 1) := by decide +kernel
theorem dX12_fails_20 : decode cX12_fails 20 = .ok (.iload_n 1, 1) := by decide +kernel
theorem dX12_fails_21 : decode cX12_fails 21 = .ok (.invokevirtual 436, 3) := by decide +kernel
theorem dX12_fails_24 : decode cX12_fails 24 = .ok (.iconst 0, 1) := by decide +kernel
theorem dX12_fails_25 : decode cX12_fails 25 = .ok (.istore_n 2, 1) := by decide +kernel
theorem dX12_fails_26 : decode cX12_fails 26 = .ok (.iconst 0, 1) := by decide +kernel
theorem dX12_fails_27 : decode cX12_fails 27 = .ok (.istore_n 3, 1) := by decide +kernel
theorem dX12_fails_28 : decode cX12_fails 28 = .ok (.iload_n 3, 1) := by decide +kernel
theorem dX12_fails_29 : decode cX12_fails 29 = .ok (.aload_n 0, 1) := by decide +kernel
theorem dX12_fails_30 : decode cX12_fails 30 = .ok (.getfield 356, 3) := by decide +kernel
theorem dX12_fails_33 : decode cX12_fails 33 = .ok (.if_icmp .ge 28, 3) := by decide +kernel
theorem dX12_fails_36 : decode cX12_fails 36 = .ok (.iload_n 2, 1) := by decide +kernel
theorem dX12_fails_37 : decode cX12_fails 37 = .ok (.aload_n 0, 1) := by decide +kernel
theorem dX12_fails_38 : decode cX12_fails 38 = .ok (.getfield 36, 3) := by decide +kernel
theorem dX12_fails_41 : decode cX12_fails 41 = .ok (.iload_n 3, 1) := by decide +kernel
theorem dX12_fails_42 : decode cX12_fails 42 = .ok (.iaload, 1) := by decide +kernel
theorem dX12_fails_43 : decode cX12_fails 43 = .ok (.bipush (-2), 2) := by decide +kernel
theorem dX12_fails_45 : decode cX12_fails 45 = .ok (.if_icmp .ne 7, 3) := by decide +kernel
theorem dX12_fails_48 : decode cX12_fails 48 = .ok (.iconst 1, 1) := by decide +kernel
theorem dX12_fails_49 : decode cX12_fails 49 = .ok (.goto 4, 3) := by decide +kernel
theorem dX12_fails_52 : decode cX12_fails 52 = .ok (.iconst 0, 1) := by decide +kernel
theorem dX12_fails_53 : decode cX12_fails 53 = .ok (.iadd, 1) := by decide +kernel
theorem dX12_fails_54 : decode cX12_fails 54 = .ok (.istore_n 2, 1) := by decide +kernel
theorem dX12_fails_55 : decode cX12_fails 55 = .ok (.iinc 3 1, 3) := by decide +kernel
theorem dX12_fails_58 : decode cX12_fails 58 = .ok (.goto (-30), 3) := by decide +kernel
theorem dX12_fails_61 : decode cX12_fails 61 = .ok (.aload_n 0, 1) := by decide +kernel
theorem dX12_fails_62 : decode cX12_fails 62 = .ok (.iload_n 2, 1) := by decide +kernel
theorem dX12_fails_63 : decode cX12_fails 63 = .ok (.invokevirtual 96, 3) := by decide +kernel
theorem dX12_fails_66 : decode cX12_fails 66 = .ok (.ireturn, 1) := by decide +kernel
set_option maxHeartbeats 4000000 in
set_option maxRecDepth 100000 in
theorem sX12_isRule {l : Launch} {D : va_G} {cA : Nat → ClassId} {base : Nat} {sA : Nat → Nat} {r0 : Nat} {x1 : Int32} {h hE : Zh} {rE : Int32} (hf : fX12_isRule r0 x1 h = some (rE, hE)) : zC l yX12_isRule cX12_isRule 2 (some .boolean) 0 0 D cA base sA [.ref (base + r0), .int x1] h (some (.int rE)) hE := by
  refine g_entry RX12 (by decide) rfl (Nat.le_of_ble_eq_true rfl) ?_
  intro p e s m args below meth c X hr
  unfold fX12_isRule at hf
  have hf := zlet_n (x := h) rfl hf
  show zG p l e { frames := 0, cells := 0, slots := 0, locals := 0 } s m args below meth c (MQ below (zQ D cA base h hE (some (.int rE))) args s 0 0 (zA base)) 2 D cA base h 0 [(0, .ref (base + r0)), (1, .int x1)] [] h
  refine g_aload_n X 0 dX12_isRule_0 rfl ?_
  obtain ⟨hk1, hf⟩ := zite hf
  refine g_get X zf12 hk1 3 (by decide) w_f_RX12_329 rfl rfl dX12_isRule_1 ?_
  refine g_ifnull X 26 dX12_isRule_4 (by decide) (fun hq => ?_) (fun _ hq => ?_)
  · have hf := zneg (by rw [hq]; decide) hf
    refine g_iconst X (v := 0) dX12_isRule_26 (by decide) ?_
    obtain ⟨rfl, rfl⟩ := zsm hf
    exact g_zret X (Or.inl rfl) hr dX12_isRule_27
  · have hf := zpos (by rw [hq]; rfl) hf
    refine g_iload_n X 1 dX12_isRule_7 rfl ?_
    refine g_if_lt X 26 dX12_isRule_8 (by decide) (fun hq => ?_) (fun hq => ?_)
    · have hf := zpos hq hf
      refine g_iconst X (v := 0) dX12_isRule_26 (by decide) ?_
      obtain ⟨rfl, rfl⟩ := zsm hf
      exact g_zret X (Or.inl rfl) hr dX12_isRule_27
    · have hf := zneg hq hf
      refine g_iload_n X 1 dX12_isRule_11 rfl ?_
      refine g_aload_n X 0 dX12_isRule_12 rfl ?_
      obtain ⟨r_2, hr_2, hf⟩ := zbd hf
      refine g_get X zf12 hk1 3 (by decide) w_f_RX12_329 rfl (zfv_r hr_2 rfl) dX12_isRule_13 ?_
      obtain ⟨hk3, hf⟩ := zite hf
      refine g_getN X zf11 hk3 5 (by decide) w_fn_RX12_259 rfl rfl dX12_isRule_16 ?_
      refine g_icmp_ge X 26 dX12_isRule_19 (by decide) (fun hq => ?_) (fun hq => ?_)
      · have hf := zpos hq hf
        refine g_iconst X (v := 0) dX12_isRule_26 (by decide) ?_
        obtain ⟨rfl, rfl⟩ := zsm hf
        exact g_zret X (Or.inl rfl) hr dX12_isRule_27
      · have hf := zneg hq hf
        refine g_iconst X (v := 1) dX12_isRule_22 (by decide) ?_
        refine g_goto X 27 dX12_isRule_23 (by decide) ?_
        obtain ⟨rfl, rfl⟩ := zsm hf
        exact g_zret X (Or.inr rfl) hr dX12_isRule_27

set_option maxHeartbeats 4000000 in
set_option maxRecDepth 100000 in
theorem sX12_lays {l : Launch} {D : va_G} {cA : Nat → ClassId} {base : Nat} {sA : Nat → Nat} {r0 : Nat} {x1 : Int32} {x2 : Int32} {h hE : Zh} {rE : Int32} (hf : fX12_lays r0 x1 x2 h = some (rE, hE)) : zC l yX12_lays cX12_lays 3 (some .int) 7 169 D cA base sA [.ref (base + r0), .int x1, .int x2] h (some (.int rE)) hE := by
  refine g_entry RX12 (by decide) rfl (Nat.le_of_ble_eq_true rfl) ?_
  intro p e s m args below meth c X hr
  unfold fX12_lays at hf
  have hf := zlet_n (x := h) rfl hf
  show zG p l e { frames := 7, cells := 0, slots := 0, locals := 169 } s m args below meth c (MQ below (zQ D cA base h hE (some (.int rE))) args s 0 0 (zA base)) 3 D cA base h 0 [(0, .ref (base + r0)), (1, .int x1), (2, .int x2)] [] h
  refine g_aload_n X 0 dX12_lays_0 rfl ?_
  refine g_iconst X (v := 0) dX12_lays_1 (by decide) ?_
  obtain ⟨hk1, hf⟩ := zite hf
  refine g_putI X zf12 hk1 0 (by decide) w_f_RX12_86 rfl rfl rfl dX12_lays_2 ?_
  refine g_hp (fun h2 eh2 => ?_)
  have hf := zlet_n eh2 hf
  refine g_aload_n X 0 dX12_lays_5 rfl ?_
  refine g_iload_n X 1 dX12_lays_6 rfl ?_
  obtain ⟨v4, h3, hch3, hf⟩ := zc2_e hf
  refine g_callV X 1 (sX12_isRule hch3) zf12 hk1 ydX12_isRule w_ml_RX12_430 w_instanceMethod_X12_isRule w_sel_X12_isRule w_ini_RX12 w_code_X12_isRule (by decide) rfl (st := []) rfl rfl (Nat.le_of_ble_eq_true rfl) dX12_lays_7 ?_
  refine g_if_eq X 34 dX12_lays_10 (by decide) (fun hq => ?_) (fun hq => ?_)
  · have hf := zpos hq hf
    refine g_aload_n X 0 dX12_lays_34 rfl ?_
    refine g_iconst X (v := 1) dX12_lays_35 (by decide) ?_
    obtain ⟨v6, h5, hch5, hf⟩ := zc2_e hf
    refine g_callV X 1 (sX12_refused hch5) zf12 hk1 ydX12_refused w_ml_RX12_92 w_instanceMethod_X12_refused w_sel_X12_refused w_ini_RX12 w_code_X12_refused (by decide) rfl (st := []) rfl rfl (Nat.le_of_ble_eq_true rfl) dX12_lays_36 ?_
    obtain ⟨rfl, rfl⟩ := zsm hf
    exact g_iret X hr dX12_lays_39
  · have hf := zneg hq hf
    refine g_aload_n X 0 dX12_lays_13 rfl ?_
    refine g_iload_n X 2 dX12_lays_14 rfl ?_
    obtain ⟨v8, h7, hch7, hf⟩ := zc2_e hf
    refine g_callV X 1 (sX12_isHand hch7) zf12 hk1 ydX12_isHand w_ml_RX12_375 w_instanceMethod_X12_isHand w_sel_X12_isHand w_ini_RX12 w_code_X12_isHand (by decide) rfl (st := []) rfl rfl (Nat.le_of_ble_eq_true rfl) dX12_lays_15 ?_
    refine g_if_eq X 34 dX12_lays_18 (by decide) (fun hq => ?_) (fun hq => ?_)
    · have hf := zpos hq hf
      refine g_aload_n X 0 dX12_lays_34 rfl ?_
      refine g_iconst X (v := 1) dX12_lays_35 (by decide) ?_
      obtain ⟨v10, h9, hch9, hf⟩ := zc2_e hf
      refine g_callV X 1 (sX12_refused hch9) zf12 hk1 ydX12_refused w_ml_RX12_92 w_instanceMethod_X12_refused w_sel_X12_refused w_ini_RX12 w_code_X12_refused (by decide) rfl (st := []) rfl rfl (Nat.le_of_ble_eq_true rfl) dX12_lays_36 ?_
      obtain ⟨rfl, rfl⟩ := zsm hf
      exact g_iret X hr dX12_lays_39
    · have hf := zneg hq hf
      refine g_aload_n X 0 dX12_lays_21 rfl ?_
      refine g_aload_n X 0 dX12_lays_22 rfl ?_
      refine g_iload_n X 1 dX12_lays_23 rfl ?_
      refine g_iload_n X 2 dX12_lays_24 rfl ?_
      obtain ⟨v12, h11, hch11, hf⟩ := zc2_e hf
      refine g_callV X 2 (sX12_laysNow hch11) zf12 hk1 ydX12_laysNow w_ml_RX12_433 w_instanceMethod_X12_laysNow w_sel_X12_laysNow w_ini_RX12 w_code_X12_laysNow (by decide) rfl (st := [.ref (base + r0)]) rfl rfl (Nat.le_of_ble_eq_true rfl) dX12_lays_25 ?_
      obtain ⟨v14, h13, hch13, hf⟩ := zc2_e hf
      refine g_callV X 1 (sX12_good hch13) zf12 hk1 ydX12_good w_ml_RX12_96 w_instanceMethod_X12_good w_sel_X12_good w_ini_RX12 w_code_X12_good (by decide) rfl (st := []) rfl rfl (Nat.le_of_ble_eq_true rfl) dX12_lays_28 ?_
      refine g_goto X 39 dX12_lays_31 (by decide) ?_
      obtain ⟨rfl, rfl⟩ := zsm hf
      exact g_iret X hr dX12_lays_39

set_option maxHeartbeats 4000000 in
set_option maxRecDepth 100000 in
theorem sX12_kept {l : Launch} {D : va_G} {cA : Nat → ClassId} {base : Nat} {sA : Nat → Nat} {r0 : Nat} {x1 : Int32} {x2 : Int32} {x3 : Int32} {h hE : Zh} {rE : Int32} (hf : fX12_kept r0 x1 x2 x3 h = some (rE, hE)) : zC l yX12_kept cX12_kept 9 (some .int) 7 169 D cA base sA [.ref (base + r0), .int x1, .int x2, .int x3] h (some (.int rE)) hE := by
  refine g_entry RX12 (by decide) rfl (Nat.le_of_ble_eq_true rfl) ?_
  intro p e s m args below meth c X hr
  unfold fX12_kept at hf
  have hf := zlet_n (x := h) rfl hf
  show zG p l e { frames := 7, cells := 0, slots := 0, locals := 169 } s m args below meth c (MQ below (zQ D cA base h hE (some (.int rE))) args s 0 0 (zA base)) 9 D cA base h 0 [(0, .ref (base + r0)), (1, .int x1), (2, .int x2), (3, .int x3)] [] h
  refine g_aload_n X 0 dX12_kept_0 rfl ?_
  refine g_iconst X (v := 0) dX12_kept_1 (by decide) ?_
  obtain ⟨hk1, hf⟩ := zite hf
  refine g_putI X zf12 hk1 0 (by decide) w_f_RX12_86 rfl rfl rfl dX12_kept_2 ?_
  refine g_hp (fun h2 eh2 => ?_)
  have hf := zlet_n eh2 hf
  refine g_aload_n X 0 dX12_kept_5 rfl ?_
  refine g_iload_n X 1 dX12_kept_6 rfl ?_
  obtain ⟨v4, h3, hch3, hf⟩ := zc2_e hf
  refine g_callV X 1 (sX12_isRule hch3) zf12 hk1 ydX12_isRule w_ml_RX12_430 w_instanceMethod_X12_isRule w_sel_X12_isRule w_ini_RX12 w_code_X12_isRule (by decide) rfl (st := []) rfl rfl (Nat.le_of_ble_eq_true rfl) dX12_kept_7 ?_
  refine g_if_eq X 38 dX12_kept_10 (by decide) (fun hq => ?_) (fun hq => ?_)
  · have hf := zpos hq hf
    refine g_aload_n X 0 dX12_kept_38 rfl ?_
    refine g_iconst X (v := 1) dX12_kept_39 (by decide) ?_
    obtain ⟨v6, h5, hch5, hf⟩ := zc2_e hf
    refine g_callV X 1 (sX12_refused hch5) zf12 hk1 ydX12_refused w_ml_RX12_92 w_instanceMethod_X12_refused w_sel_X12_refused w_ini_RX12 w_code_X12_refused (by decide) rfl (st := []) rfl rfl (Nat.le_of_ble_eq_true rfl) dX12_kept_40 ?_
    obtain ⟨rfl, rfl⟩ := zsm hf
    exact g_iret X hr dX12_kept_43
  · have hf := zneg hq hf
    refine g_aload_n X 0 dX12_kept_13 rfl ?_
    refine g_iload_n X 2 dX12_kept_14 rfl ?_
    obtain ⟨v8, h7, hch7, hf⟩ := zc2_e hf
    refine g_callV X 1 (sX12_isHand hch7) zf12 hk1 ydX12_isHand w_ml_RX12_375 w_instanceMethod_X12_isHand w_sel_X12_isHand w_ini_RX12 w_code_X12_isHand (by decide) rfl (st := []) rfl rfl (Nat.le_of_ble_eq_true rfl) dX12_kept_15 ?_
    refine g_if_eq X 38 dX12_kept_18 (by decide) (fun hq => ?_) (fun hq => ?_)
    · have hf := zpos hq hf
      refine g_aload_n X 0 dX12_kept_38 rfl ?_
      refine g_iconst X (v := 1) dX12_kept_39 (by decide) ?_
      obtain ⟨v10, h9, hch9, hf⟩ := zc2_e hf
      refine g_callV X 1 (sX12_refused hch9) zf12 hk1 ydX12_refused w_ml_RX12_92 w_instanceMethod_X12_refused w_sel_X12_refused w_ini_RX12 w_code_X12_refused (by decide) rfl (st := []) rfl rfl (Nat.le_of_ble_eq_true rfl) dX12_kept_40 ?_
      obtain ⟨rfl, rfl⟩ := zsm hf
      exact g_iret X hr dX12_kept_43
    · have hf := zneg hq hf
      refine g_iload_n X 3 dX12_kept_21 rfl ?_
      refine g_iconst X (v := 0) dX12_kept_22 (by decide) ?_
      refine g_aload_n X 0 dX12_kept_23 rfl ?_
      obtain ⟨r_11, hr_11, hf⟩ := zbd hf
      refine g_get X zf12 hk1 3 (by decide) w_f_RX12_329 rfl (zfv_r hr_11 rfl) dX12_kept_24 ?_
      obtain ⟨hk12, hf⟩ := zite hf
      refine g_getN X zf11 hk12 3 (by decide) w_fn_RX12_255 rfl rfl dX12_kept_27 ?_
      refine g_iconst X (v := 1) dX12_kept_30 (by decide) ?_
      refine g_isub X dX12_kept_31 ?_
      obtain ⟨v14, h13, hch13, hf⟩ := zc2_e hf
      refine g_callS X 3 (sX12_in hch13) ysX12_in w_ml_RX12_168 w_static_X12_in w_ini_RX12 w_code_X12_in (by decide) rfl (st := []) rfl rfl (Nat.le_of_ble_eq_true rfl) dX12_kept_32 ?_
      refine g_if_ne X 44 dX12_kept_35 (by decide) (fun hq => ?_) (fun hq => ?_)
      · have hf := zneg hq hf
        refine g_aload_n X 0 dX12_kept_44 rfl ?_
        refine g_iload_n X 1 dX12_kept_45 rfl ?_
        refine g_iload_n X 2 dX12_kept_46 rfl ?_
        obtain ⟨v16, h15, hch15, hf⟩ := zc2_e hf
        refine g_callV X 2 (sX12_laysNow hch15) zf12 hk1 ydX12_laysNow w_ml_RX12_433 w_instanceMethod_X12_laysNow w_sel_X12_laysNow w_ini_RX12 w_code_X12_laysNow (by decide) rfl (st := []) rfl rfl (Nat.le_of_ble_eq_true rfl) dX12_kept_47 ?_
        refine g_istore X [(4, .int v16), (0, .ref (base + r0)), (1, .int x1), (2, .int x2), (3, .int x3)] dX12_kept_50 (by decide) rfl ?_
        refine g_iload X 0 dX12_kept_52 rfl ?_
        refine g_bipush X (v := -2) dX12_kept_54 (by decide) ?_
        refine g_icmp_ne X 66 dX12_kept_56 (by decide) (fun hq => ?_) (fun hq => ?_)
        · have hf := zneg hq hf
          refine g_aload_n X 1 dX12_kept_66 rfl ?_
          refine g_iload X 0 dX12_kept_67 rfl ?_
          refine g_aload_n X 1 dX12_kept_69 rfl ?_
          obtain ⟨r_17, hr_17, hf⟩ := zbd hf
          refine g_get X zf12 hk1 19 (by decide) w_f_RX12_24 rfl (zfv_r hr_17 rfl) dX12_kept_70 ?_
          obtain ⟨h18, hch18, hf⟩ := zbd hf
          refine g_callV X 2 (sX12_rowCards hch18) zf12 hk1 ydX12_rowCards w_ml_RX12_381 w_instanceMethod_X12_rowCards w_sel_X12_rowCards w_ini_RX12 w_code_X12_rowCards (by decide) rfl (st := []) rfl rfl (Nat.le_of_ble_eq_true rfl) dX12_kept_73 ?_
          refine g_iconst X (v := 0) dX12_kept_76 (by decide) ?_
          refine g_istore X [(5, .int ((0 : Int32))), (4, .int v16), (0, .ref (base + r0)), (1, .int x1), (2, .int x2), (3, .int x3)] dX12_kept_77 (by decide) rfl ?_
          refine g_iconst X (v := 0) dX12_kept_79 (by decide) ?_
          refine g_istore X [(6, .int ((0 : Int32))), (5, .int ((0 : Int32))), (4, .int v16), (0, .ref (base + r0)), (1, .int x1), (2, .int x2), (3, .int x3)] dX12_kept_80 (by decide) rfl ?_
          refine g_sub [3, 5, 6, 1, 0] rfl ?_
          obtain ⟨qq, hlp, hf⟩ := zbd hf
          refine lp_snd (body := (fun q : Int32 × Int32 × Zh => bX12_kept_82 h r0 x2 x3 q.1 q.2.1 q.2.2)) (P := (fun q : Int32 × Int32 × Zh => zG p l e { frames := 7, cells := 0, slots := 0, locals := 169 } s m args below meth c (MQ below (zQ D cA base h hE (some (.int rE))) args s 0 0 (zA base)) 9 D cA base h 82 [(0, .ref (base + r0)), (2, .int x2), (3, .int x3), (5, .int q.1), (6, .int q.2.1)] [] q.2.2)) (E := (fun (en : Nat) (q : Int32 × Int32 × Zh) => if en = 1 then zG p l e { frames := 7, cells := 0, slots := 0, locals := 169 } s m args below meth c (MQ below (zQ D cA base h hE (some (.int rE))) args s 0 0 (zA base)) 9 D cA base h 162 [(0, .ref (base + r0)), (6, .int q.2.1)] [] q.2.2 else zG p l e { frames := 7, cells := 0, slots := 0, locals := 169 } s m args below meth c (MQ below (zQ D cA base h hE (some (.int rE))) args s 0 0 (zA base)) 9 D cA base h 178 [(0, .ref (base + r0))] [] q.2.2)) ?_ zB ((0 : Int32), ((0 : Int32), h18)) qq.1 qq.2 hlp ?_
          · intro q e_82 q_82 hf hc0 hc1
            obtain ⟨x5_82, x6_82, h_82⟩ := q
            have hf : bX12_kept_82 h r0 x2 x3 x5_82 x6_82 h_82 = some (e_82, q_82) := hf
            unfold bX12_kept_82 at hf
            show zG p l e { frames := 7, cells := 0, slots := 0, locals := 169 } s m args below meth c (MQ below (zQ D cA base h hE (some (.int rE))) args s 0 0 (zA base)) 9 D cA base h 82 [(0, .ref (base + r0)), (2, .int x2), (3, .int x3), (5, .int x5_82), (6, .int x6_82)] [] h_82
            refine g_iload X 4 dX12_kept_82 rfl ?_
            refine g_aload_n X 0 dX12_kept_84 rfl ?_
            obtain ⟨r_19, hr_19, hf⟩ := zbd hf
            refine g_get X zf12 hk1 3 (by decide) w_f_RX12_329 rfl (zfv_r hr_19 rfl) dX12_kept_85 ?_
            obtain ⟨hk20, hf⟩ := zite hf
            refine g_getN X zf11 hk20 0 (by decide) w_fn_RX12_194 rfl rfl dX12_kept_88 ?_
            refine g_icmp_ge X 178 dX12_kept_91 (by decide) (fun hq => ?_) (fun hq => ?_)
            · have hf := zpos hq hf
              cases hf
              have hc1 := hc1 (by decide)
              exact g_sub [0] rfl (zun_n (by decide) hc1)
            · have hf := zneg hq hf
              refine g_aload_n X 0 dX12_kept_94 rfl ?_
              refine g_iload_n X 1 dX12_kept_95 rfl ?_
              refine g_iload X 4 dX12_kept_96 rfl ?_
              obtain ⟨v22, h21, hch21, hf⟩ := zc2_e hf
              refine g_callV X 2 (sX12_has hch21) zf12 hk1 ydX12_has w_ml_RX12_369 w_instanceMethod_X12_has w_sel_X12_has w_ini_RX12 w_code_X12_has (by decide) rfl (st := []) rfl rfl (Nat.le_of_ble_eq_true rfl) dX12_kept_98 ?_
              refine g_istore X [(7, .int v22), (0, .ref (base + r0)), (2, .int x2), (3, .int x3), (5, .int x5_82), (6, .int x6_82)] dX12_kept_101 (by decide) rfl ?_
              refine g_iconst X (v := 0) dX12_kept_103 (by decide) ?_
              refine g_istore X [(8, .int ((0 : Int32))), (7, .int v22), (0, .ref (base + r0)), (2, .int x2), (3, .int x3), (5, .int x5_82), (6, .int x6_82)] dX12_kept_104 (by decide) rfl ?_
              refine g_sub [2, 3, 4, 5, 6, 1, 0] rfl ?_
              obtain ⟨qq, hlp, hf⟩ := zbd hf
              refine lp_snd (body := (fun q : Int32 × Int32 × Zh => bX12_kept_106 h r0 x6_82 q.1 q.2.1 q.2.2)) (P := (fun q : Int32 × Int32 × Zh => zG p l e { frames := 7, cells := 0, slots := 0, locals := 169 } s m args below meth c (MQ below (zQ D cA base h hE (some (.int rE))) args s 0 0 (zA base)) 9 D cA base h 106 [(0, .ref (base + r0)), (2, .int x2), (3, .int x3), (5, .int x5_82), (6, .int x6_82), (7, .int q.1), (8, .int q.2.1)] [] q.2.2)) (E := (fun (en : Nat) (q : Int32 × Int32 × Zh) => zG p l e { frames := 7, cells := 0, slots := 0, locals := 169 } s m args below meth c (MQ below (zQ D cA base h hE (some (.int rE))) args s 0 0 (zA base)) 9 D cA base h 148 [(0, .ref (base + r0)), (2, .int x2), (3, .int x3), (5, .int x5_82), (6, .int x6_82), (7, .int q.1)] [] q.2.2)) ?_ zB (v22, ((0 : Int32), h21)) qq.1 qq.2 hlp ?_
              · intro q e_106 q_106 hf hc0 hc1
                obtain ⟨x7_106, x8_106, h_106⟩ := q
                have hf : bX12_kept_106 h r0 x6_82 x7_106 x8_106 h_106 = some (e_106, q_106) := hf
                unfold bX12_kept_106 at hf
                show zG p l e { frames := 7, cells := 0, slots := 0, locals := 169 } s m args below meth c (MQ below (zQ D cA base h hE (some (.int rE))) args s 0 0 (zA base)) 9 D cA base h 106 [(0, .ref (base + r0)), (2, .int x2), (3, .int x3), (5, .int x5_82), (6, .int x6_82), (7, .int x7_106), (8, .int x8_106)] [] h_106
                refine g_iload X 6 dX12_kept_106 rfl ?_
                refine g_aload_n X 0 dX12_kept_108 rfl ?_
                obtain ⟨r_23, hr_23, hf⟩ := zbd hf
                refine g_get X zf12 hk1 3 (by decide) w_f_RX12_329 rfl (zfv_r hr_23 rfl) dX12_kept_109 ?_
                obtain ⟨hk24, hf⟩ := zite hf
                refine g_getN X zf11 hk24 4 (by decide) w_fn_RX12_257 rfl rfl dX12_kept_112 ?_
                refine g_icmp_ge X 148 dX12_kept_115 (by decide) (fun hq => ?_) (fun hq => ?_)
                · have hf := zpos hq hf
                  cases hf
                  have hc1 := hc1 (by decide)
                  exact g_sub [0, 1, 2, 3, 4, 5] rfl hc1
                · have hf := zneg hq hf
                  refine g_iload X 5 dX12_kept_118 rfl ?_
                  refine g_if_eq X 139 dX12_kept_120 (by decide) (fun hq => ?_) (fun hq => ?_)
                  · have hf := zpos hq hf
                    refine g_iconst X (v := 0) dX12_kept_139 (by decide) ?_
                    refine g_istore X [(7, .int ((0 : Int32))), (0, .ref (base + r0)), (2, .int x2), (3, .int x3), (5, .int x5_82), (6, .int x6_82), (8, .int x8_106)] dX12_kept_140 (by decide) rfl ?_
                    obtain ⟨y25, ey25⟩ : ∃ y : Int32, y = x8_106 + (1 : Int32) := ⟨_, rfl⟩
                    have hf := zlet_n ey25 hf
                    refine g_iinc X (j := 6) [(8, .int y25), (7, .int ((0 : Int32))), (0, .ref (base + r0)), (2, .int x2), (3, .int x3), (5, .int x5_82), (6, .int x6_82)] dX12_kept_142 rfl (by rw [ey25]; rfl) (by decide) rfl ?_
                    refine g_goto X 106 dX12_kept_145 (by decide) ?_
                    cases hf
                    exact g_sub [2, 3, 4, 5, 6, 1, 0] rfl (hc0 rfl)
                  · have hf := zneg hq hf
                    refine g_aload_n X 0 dX12_kept_123 rfl ?_
                    obtain ⟨r_26, hr_26, hf⟩ := zbd hf
                    refine g_get X zf12 hk1 19 (by decide) w_f_RX12_24 rfl (zfv_r hr_26 rfl) dX12_kept_124 ?_
                    refine g_iload X 6 dX12_kept_127 rfl ?_
                    obtain ⟨hk27, hf⟩ := zite hf
                    obtain ⟨hi28, hf⟩ := zite hf
                    refine g_iald X hk27 hi28 dX12_kept_129 ?_
                    refine g_iload X 4 dX12_kept_130 rfl ?_
                    refine g_icmp_eq X 139 dX12_kept_132 (by decide) (fun hq => ?_) (fun hq => ?_)
                    · have hf := zpos hq hf
                      refine g_iconst X (v := 0) dX12_kept_139 (by decide) ?_
                      refine g_istore X [(7, .int ((0 : Int32))), (0, .ref (base + r0)), (2, .int x2), (3, .int x3), (5, .int x5_82), (6, .int x6_82), (8, .int x8_106)] dX12_kept_140 (by decide) rfl ?_
                      obtain ⟨y29, ey29⟩ : ∃ y : Int32, y = x8_106 + (1 : Int32) := ⟨_, rfl⟩
                      have hf := zlet_n ey29 hf
                      refine g_iinc X (j := 6) [(8, .int y29), (7, .int ((0 : Int32))), (0, .ref (base + r0)), (2, .int x2), (3, .int x3), (5, .int x5_82), (6, .int x6_82)] dX12_kept_142 rfl (by rw [ey29]; rfl) (by decide) rfl ?_
                      refine g_goto X 106 dX12_kept_145 (by decide) ?_
                      cases hf
                      exact g_sub [2, 3, 4, 5, 6, 1, 0] rfl (hc0 rfl)
                    · have hf := zneg hq hf
                      refine g_iconst X (v := 1) dX12_kept_135 (by decide) ?_
                      refine g_goto X 140 dX12_kept_136 (by decide) ?_
                      refine g_istore X [(7, .int ((1 : Int32))), (0, .ref (base + r0)), (2, .int x2), (3, .int x3), (5, .int x5_82), (6, .int x6_82), (8, .int x8_106)] dX12_kept_140 (by decide) rfl ?_
                      obtain ⟨y30, ey30⟩ : ∃ y : Int32, y = x8_106 + (1 : Int32) := ⟨_, rfl⟩
                      have hf := zlet_n ey30 hf
                      refine g_iinc X (j := 6) [(8, .int y30), (7, .int ((1 : Int32))), (0, .ref (base + r0)), (2, .int x2), (3, .int x3), (5, .int x5_82), (6, .int x6_82)] dX12_kept_142 rfl (by rw [ey30]; rfl) (by decide) rfl ?_
                      refine g_goto X 106 dX12_kept_145 (by decide) ?_
                      cases hf
                      exact g_sub [2, 3, 4, 5, 6, 1, 0] rfl (hc0 rfl)
              · obtain ⟨ee, x7_k106, x8_k106, h_k106⟩ := qq
                have hf : kX12_kept_106 h r0 x2 x3 x5_82 x6_82 ee x7_k106 x8_k106 h_k106 = some (e_82, q_82) := hf
                unfold kX12_kept_106 at hf
                show zG p l e { frames := 7, cells := 0, slots := 0, locals := 169 } s m args below meth c (MQ below (zQ D cA base h hE (some (.int rE))) args s 0 0 (zA base)) 9 D cA base h 148 [(0, .ref (base + r0)), (2, .int x2), (3, .int x3), (5, .int x5_82), (6, .int x6_82), (7, .int x7_k106)] [] h_k106
                refine g_iload X 5 dX12_kept_148 rfl ?_
                refine g_if_ne X 156 dX12_kept_150 (by decide) (fun hq => ?_) (fun hq => ?_)
                · have hf := zneg hq hf
                  refine g_iload X 3 dX12_kept_156 rfl ?_
                  refine g_iload_n X 2 dX12_kept_158 rfl ?_
                  refine g_icmp_ne X 169 dX12_kept_159 (by decide) (fun hq => ?_) (fun hq => ?_)
                  · have hf := zneg hq hf
                    obtain ⟨y31, ey31⟩ : ∃ y : Int32, y = x5_82 + (1 : Int32) := ⟨_, rfl⟩
                    have hf := zlet_n ey31 hf
                    refine g_iinc X (j := 3) [(5, .int y31), (0, .ref (base + r0)), (2, .int x2), (3, .int x3), (6, .int x6_82), (7, .int x7_k106)] dX12_kept_169 rfl (by rw [ey31]; rfl) (by decide) rfl ?_
                    obtain ⟨y32, ey32⟩ : ∃ y : Int32, y = x6_82 + (1 : Int32) := ⟨_, rfl⟩
                    have hf := zlet_n ey32 hf
                    refine g_iinc X (j := 4) [(6, .int y32), (5, .int y31), (0, .ref (base + r0)), (2, .int x2), (3, .int x3), (7, .int x7_k106)] dX12_kept_172 rfl (by rw [ey32]; rfl) (by decide) rfl ?_
                    refine g_goto X 82 dX12_kept_175 (by decide) ?_
                    cases hf
                    exact g_sub [2, 3, 4, 1, 0] rfl (hc0 rfl)
                  · have hf := zpos hq hf
                    cases hf
                    have hc1 := hc1 (by decide)
                    exact g_sub [0, 4] rfl (zun_p rfl hc1)
                · have hf := zpos hq hf
                  refine g_goto X 172 dX12_kept_153 (by decide) ?_
                  obtain ⟨y33, ey33⟩ : ∃ y : Int32, y = x6_82 + (1 : Int32) := ⟨_, rfl⟩
                  have hf := zlet_n ey33 hf
                  refine g_iinc X (j := 4) [(6, .int y33), (0, .ref (base + r0)), (2, .int x2), (3, .int x3), (5, .int x5_82), (7, .int x7_k106)] dX12_kept_172 rfl (by rw [ey33]; rfl) (by decide) rfl ?_
                  refine g_goto X 82 dX12_kept_175 (by decide) ?_
                  cases hf
                  exact g_sub [1, 2, 3, 4, 0] rfl (hc0 rfl)
          · obtain ⟨ee, x5_k82, x6_k82, h_k82⟩ := qq
            have hf : kX12_kept_82 h r0 ee x5_k82 x6_k82 h_k82 = some (rE, hE) := hf
            unfold kX12_kept_82 at hf
            by_cases hee0 : ee = 1
            · have hf := zpos hee0 hf
              refine zifp hee0 ?_
              show zG p l e { frames := 7, cells := 0, slots := 0, locals := 169 } s m args below meth c (MQ below (zQ D cA base h hE (some (.int rE))) args s 0 0 (zA base)) 9 D cA base h 162 [(0, .ref (base + r0)), (6, .int x6_k82)] [] h_k82
              refine g_aload_n X 0 dX12_kept_162 rfl ?_
              refine g_iload X 1 dX12_kept_163 rfl ?_
              obtain ⟨v35, h34, hch34, hf⟩ := zc2_e hf
              refine g_callV X 1 (sX12_good hch34) zf12 hk1 ydX12_good w_ml_RX12_96 w_instanceMethod_X12_good w_sel_X12_good w_ini_RX12 w_code_X12_good (by decide) rfl (st := []) rfl rfl (Nat.le_of_ble_eq_true rfl) dX12_kept_165 ?_
              obtain ⟨rfl, rfl⟩ := zsm hf
              exact g_iret X hr dX12_kept_168
            have hf := zneg hee0 hf
            refine zifn hee0 ?_
            show zG p l e { frames := 7, cells := 0, slots := 0, locals := 169 } s m args below meth c (MQ below (zQ D cA base h hE (some (.int rE))) args s 0 0 (zA base)) 9 D cA base h 178 [(0, .ref (base + r0))] [] h_k82
            refine g_aload_n X 0 dX12_kept_178 rfl ?_
            refine g_iconst X (v := 1) dX12_kept_179 (by decide) ?_
            obtain ⟨v37, h36, hch36, hf⟩ := zc2_e hf
            refine g_callV X 1 (sX12_refused hch36) zf12 hk1 ydX12_refused w_ml_RX12_92 w_instanceMethod_X12_refused w_sel_X12_refused w_ini_RX12 w_code_X12_refused (by decide) rfl (st := []) rfl rfl (Nat.le_of_ble_eq_true rfl) dX12_kept_180 ?_
            obtain ⟨rfl, rfl⟩ := zsm hf
            exact g_iret X hr dX12_kept_183
        · have hf := zpos hq hf
          refine g_aload_n X 1 dX12_kept_59 rfl ?_
          refine g_bipush X (v := 6) dX12_kept_60 (by decide) ?_
          obtain ⟨v39, h38, hch38, hf⟩ := zc2_e hf
          refine g_callV X 1 (sX12_refused hch38) zf12 hk1 ydX12_refused w_ml_RX12_92 w_instanceMethod_X12_refused w_sel_X12_refused w_ini_RX12 w_code_X12_refused (by decide) rfl (st := []) rfl rfl (Nat.le_of_ble_eq_true rfl) dX12_kept_62 ?_
          obtain ⟨rfl, rfl⟩ := zsm hf
          exact g_iret X hr dX12_kept_65
      · have hf := zpos hq hf
        refine g_aload_n X 0 dX12_kept_38 rfl ?_
        refine g_iconst X (v := 1) dX12_kept_39 (by decide) ?_
        obtain ⟨v41, h40, hch40, hf⟩ := zc2_e hf
        refine g_callV X 1 (sX12_refused hch40) zf12 hk1 ydX12_refused w_ml_RX12_92 w_instanceMethod_X12_refused w_sel_X12_refused w_ini_RX12 w_code_X12_refused (by decide) rfl (st := []) rfl rfl (Nat.le_of_ble_eq_true rfl) dX12_kept_40 ?_
        obtain ⟨rfl, rfl⟩ := zsm hf
        exact g_iret X hr dX12_kept_43

set_option maxHeartbeats 4000000 in
set_option maxRecDepth 100000 in
theorem sX12_laysAll {l : Launch} {D : va_G} {cA : Nat → ClassId} {base : Nat} {sA : Nat → Nat} {r0 : Nat} {x1 : Int32} {h hE : Zh} (hf : fX12_laysAll r0 x1 h = some hE) : zC l yX12_laysAll cX12_laysAll 3 none 7 169 D cA base sA [.ref (base + r0), .int x1] h none hE := by
  refine g_entry RX12 (by decide) rfl (Nat.le_of_ble_eq_true rfl) ?_
  intro p e s m args below meth c X hr
  unfold fX12_laysAll at hf
  have hf := zlet_n (x := h) rfl hf
  show zG p l e { frames := 7, cells := 0, slots := 0, locals := 169 } s m args below meth c (MQ below (zQ D cA base h hE none) args s 0 0 (zA base)) 3 D cA base h 0 [(0, .ref (base + r0)), (1, .int x1)] [] h
  refine g_iconst X (v := 0) dX12_laysAll_0 (by decide) ?_
  refine g_istore_n X [(2, .int ((0 : Int32))), (0, .ref (base + r0)), (1, .int x1)] dX12_laysAll_1 (by decide) rfl ?_
  refine g_sub [1, 2, 0] rfl ?_
  obtain ⟨qq, hlp, hf⟩ := zbd hf
  refine lp_snd (body := (fun q : Int32 × Zh => bX12_laysAll_2 h r0 x1 q.1 q.2)) (P := (fun q : Int32 × Zh => zG p l e { frames := 7, cells := 0, slots := 0, locals := 169 } s m args below meth c (MQ below (zQ D cA base h hE none) args s 0 0 (zA base)) 3 D cA base h 2 [(0, .ref (base + r0)), (1, .int x1), (2, .int q.1)] [] q.2)) (E := (fun (en : Nat) (q : Int32 × Zh) => zG p l e { frames := 7, cells := 0, slots := 0, locals := 169 } s m args below meth c (MQ below (zQ D cA base h hE none) args s 0 0 (zA base)) 3 D cA base h 28 [] [] q.2)) ?_ zB ((0 : Int32), h) qq.1 qq.2 hlp ?_
  · intro q e_2 q_2 hf hc0 hc1
    obtain ⟨x2_2, h_2⟩ := q
    have hf : bX12_laysAll_2 h r0 x1 x2_2 h_2 = some (e_2, q_2) := hf
    unfold bX12_laysAll_2 at hf
    show zG p l e { frames := 7, cells := 0, slots := 0, locals := 169 } s m args below meth c (MQ below (zQ D cA base h hE none) args s 0 0 (zA base)) 3 D cA base h 2 [(0, .ref (base + r0)), (1, .int x1), (2, .int x2_2)] [] h_2
    refine g_iload_n X 2 dX12_laysAll_2 rfl ?_
    refine g_aload_n X 0 dX12_laysAll_3 rfl ?_
    obtain ⟨hk1, hf⟩ := zite hf
    refine g_get X zf12 hk1 17 (by decide) w_f_RX12_356 rfl rfl dX12_laysAll_4 ?_
    refine g_icmp_ge X 28 dX12_laysAll_7 (by decide) (fun hq => ?_) (fun hq => ?_)
    · have hf := zpos hq hf
      cases hf
      have hc1 := hc1 (by decide)
      exact g_sub [] rfl hc1
    · have hf := zneg hq hf
      refine g_aload_n X 0 dX12_laysAll_10 rfl ?_
      obtain ⟨r_2, hr_2, hf⟩ := zbd hf
      refine g_get X zf12 hk1 25 (by decide) w_f_RX12_36 rfl (zfv_r hr_2 rfl) dX12_laysAll_11 ?_
      refine g_iload_n X 2 dX12_laysAll_14 rfl ?_
      refine g_aload_n X 0 dX12_laysAll_15 rfl ?_
      refine g_iload_n X 1 dX12_laysAll_16 rfl ?_
      refine g_iload_n X 2 dX12_laysAll_17 rfl ?_
      obtain ⟨v4, h3, hch3, hf⟩ := zc2_e hf
      refine g_callV X 2 (sX12_laysNow hch3) zf12 hk1 ydX12_laysNow w_ml_RX12_433 w_instanceMethod_X12_laysNow w_sel_X12_laysNow w_ini_RX12 w_code_X12_laysNow (by decide) rfl (st := [.int x2_2, .ref (base + r_2)]) rfl rfl (Nat.le_of_ble_eq_true rfl) dX12_laysAll_18 ?_
      obtain ⟨hk5, hf⟩ := zite hf
      obtain ⟨hi6, hf⟩ := zite hf
      refine g_iast X hk5 hi6 dX12_laysAll_21 ?_
      refine g_hp (fun h7 eh7 => ?_)
      have hf := zlet_n eh7 hf
      obtain ⟨y8, ey8⟩ : ∃ y : Int32, y = x2_2 + (1 : Int32) := ⟨_, rfl⟩
      have hf := zlet_n ey8 hf
      refine g_iinc X (j := 2) [(2, .int y8), (0, .ref (base + r0)), (1, .int x1)] dX12_laysAll_22 rfl (by rw [ey8]; rfl) (by decide) rfl ?_
      refine g_goto X 2 dX12_laysAll_25 (by decide) ?_
      cases hf
      exact g_sub [1, 2, 0] rfl (hc0 rfl)
  · obtain ⟨ee, x2_k2, h_k2⟩ := qq
    have hf : kX12_laysAll_2 h ee x2_k2 h_k2 = some hE := hf
    unfold kX12_laysAll_2 at hf
    show zG p l e { frames := 7, cells := 0, slots := 0, locals := 169 } s m args below meth c (MQ below (zQ D cA base h hE none) args s 0 0 (zA base)) 3 D cA base h 28 [] [] h_k2
    cases hf
    exact g_vret X hr dX12_laysAll_28

set_option maxHeartbeats 4000000 in
set_option maxRecDepth 100000 in
theorem sX12_laysAllWords {l : Launch} {D : va_G} {cA : Nat → ClassId} {base : Nat} {sA : Nat → Nat} {r0 : Nat} {x1 : Int32} {h hE : Zh} (hf : fX12_laysAllWords r0 x1 h = some hE) : zC l yX12_laysAllWords cX12_laysAllWords 3 none 4 106 D cA base sA [.ref (base + r0), .int x1] h none hE := by
  refine g_entry RX12 (by decide) rfl (Nat.le_of_ble_eq_true rfl) ?_
  intro p e s m args below meth c X hr
  unfold fX12_laysAllWords at hf
  have hf := zlet_n (x := h) rfl hf
  show zG p l e { frames := 4, cells := 0, slots := 0, locals := 106 } s m args below meth c (MQ below (zQ D cA base h hE none) args s 0 0 (zA base)) 3 D cA base h 0 [(0, .ref (base + r0)), (1, .int x1)] [] h
  refine g_iconst X (v := 0) dX12_laysAllWords_0 (by decide) ?_
  refine g_istore_n X [(2, .int ((0 : Int32))), (0, .ref (base + r0)), (1, .int x1)] dX12_laysAllWords_1 (by decide) rfl ?_
  refine g_sub [1, 2, 0] rfl ?_
  obtain ⟨qq, hlp, hf⟩ := zbd hf
  refine lp_snd (body := (fun q : Int32 × Zh => bX12_laysAllWords_2 h r0 x1 q.1 q.2)) (P := (fun q : Int32 × Zh => zG p l e { frames := 4, cells := 0, slots := 0, locals := 106 } s m args below meth c (MQ below (zQ D cA base h hE none) args s 0 0 (zA base)) 3 D cA base h 2 [(0, .ref (base + r0)), (1, .int x1), (2, .int q.1)] [] q.2)) (E := (fun (en : Nat) (q : Int32 × Zh) => zG p l e { frames := 4, cells := 0, slots := 0, locals := 106 } s m args below meth c (MQ below (zQ D cA base h hE none) args s 0 0 (zA base)) 3 D cA base h 28 [] [] q.2)) ?_ zB ((0 : Int32), h) qq.1 qq.2 hlp ?_
  · intro q e_2 q_2 hf hc0 hc1
    obtain ⟨x2_2, h_2⟩ := q
    have hf : bX12_laysAllWords_2 h r0 x1 x2_2 h_2 = some (e_2, q_2) := hf
    unfold bX12_laysAllWords_2 at hf
    show zG p l e { frames := 4, cells := 0, slots := 0, locals := 106 } s m args below meth c (MQ below (zQ D cA base h hE none) args s 0 0 (zA base)) 3 D cA base h 2 [(0, .ref (base + r0)), (1, .int x1), (2, .int x2_2)] [] h_2
    refine g_iload_n X 2 dX12_laysAllWords_2 rfl ?_
    refine g_aload_n X 0 dX12_laysAllWords_3 rfl ?_
    obtain ⟨hk1, hf⟩ := zite hf
    refine g_get X zf12 hk1 17 (by decide) w_f_RX12_356 rfl rfl dX12_laysAllWords_4 ?_
    refine g_icmp_ge X 28 dX12_laysAllWords_7 (by decide) (fun hq => ?_) (fun hq => ?_)
    · have hf := zpos hq hf
      cases hf
      have hc1 := hc1 (by decide)
      exact g_sub [] rfl hc1
    · have hf := zneg hq hf
      refine g_aload_n X 0 dX12_laysAllWords_10 rfl ?_
      obtain ⟨r_2, hr_2, hf⟩ := zbd hf
      refine g_get X zf12 hk1 25 (by decide) w_f_RX12_36 rfl (zfv_r hr_2 rfl) dX12_laysAllWords_11 ?_
      refine g_iload_n X 2 dX12_laysAllWords_14 rfl ?_
      refine g_aload_n X 0 dX12_laysAllWords_15 rfl ?_
      refine g_iload_n X 1 dX12_laysAllWords_16 rfl ?_
      refine g_iload_n X 2 dX12_laysAllWords_17 rfl ?_
      obtain ⟨v4, h3, hch3, hf⟩ := zc2_e hf
      refine g_callV X 2 (sX12_laysWords hch3) zf12 hk1 ydX12_laysWords w_ml_RX12_421 w_instanceMethod_X12_laysWords w_sel_X12_laysWords w_ini_RX12 w_code_X12_laysWords (by decide) rfl (st := [.int x2_2, .ref (base + r_2)]) rfl rfl (Nat.le_of_ble_eq_true rfl) dX12_laysAllWords_18 ?_
      obtain ⟨hk5, hf⟩ := zite hf
      obtain ⟨hi6, hf⟩ := zite hf
      refine g_iast X hk5 hi6 dX12_laysAllWords_21 ?_
      refine g_hp (fun h7 eh7 => ?_)
      have hf := zlet_n eh7 hf
      obtain ⟨y8, ey8⟩ : ∃ y : Int32, y = x2_2 + (1 : Int32) := ⟨_, rfl⟩
      have hf := zlet_n ey8 hf
      refine g_iinc X (j := 2) [(2, .int y8), (0, .ref (base + r0)), (1, .int x1)] dX12_laysAllWords_22 rfl (by rw [ey8]; rfl) (by decide) rfl ?_
      refine g_goto X 2 dX12_laysAllWords_25 (by decide) ?_
      cases hf
      exact g_sub [1, 2, 0] rfl (hc0 rfl)
  · obtain ⟨ee, x2_k2, h_k2⟩ := qq
    have hf : kX12_laysAllWords_2 h ee x2_k2 h_k2 = some hE := hf
    unfold kX12_laysAllWords_2 at hf
    show zG p l e { frames := 4, cells := 0, slots := 0, locals := 106 } s m args below meth c (MQ below (zQ D cA base h hE none) args s 0 0 (zA base)) 3 D cA base h 28 [] [] h_k2
    cases hf
    exact g_vret X hr dX12_laysAllWords_28

set_option maxHeartbeats 4000000 in
set_option maxRecDepth 100000 in
theorem sX12_firstWith {l : Launch} {D : va_G} {cA : Nat → ClassId} {base : Nat} {sA : Nat → Nat} {r0 : Nat} {x1 : Int32} {h hE : Zh} {rE : Int32} (hf : fX12_firstWith r0 x1 h = some (rE, hE)) : zC l yX12_firstWith cX12_firstWith 3 (some .int) 0 0 D cA base sA [.ref (base + r0), .int x1] h (some (.int rE)) hE := by
  refine g_entry RX12 (by decide) rfl (Nat.le_of_ble_eq_true rfl) ?_
  intro p e s m args below meth c X hr
  unfold fX12_firstWith at hf
  have hf := zlet_n (x := h) rfl hf
  show zG p l e { frames := 0, cells := 0, slots := 0, locals := 0 } s m args below meth c (MQ below (zQ D cA base h hE (some (.int rE))) args s 0 0 (zA base)) 3 D cA base h 0 [(0, .ref (base + r0)), (1, .int x1)] [] h
  refine g_iconst X (v := 0) dX12_firstWith_0 (by decide) ?_
  refine g_istore_n X [(2, .int ((0 : Int32))), (0, .ref (base + r0)), (1, .int x1)] dX12_firstWith_1 (by decide) rfl ?_
  refine g_sub [1, 2, 0] rfl ?_
  obtain ⟨qq, hlp, hf⟩ := zbd hf
  refine lp_snd (body := (fun q : Int32 × Zh => bX12_firstWith_2 h r0 x1 q.1 q.2)) (P := (fun q : Int32 × Zh => zG p l e { frames := 0, cells := 0, slots := 0, locals := 0 } s m args below meth c (MQ below (zQ D cA base h hE (some (.int rE))) args s 0 0 (zA base)) 3 D cA base h 2 [(0, .ref (base + r0)), (1, .int x1), (2, .int q.1)] [] q.2)) (E := (fun (en : Nat) (q : Int32 × Zh) => if en = 1 then zG p l e { frames := 0, cells := 0, slots := 0, locals := 0 } s m args below meth c (MQ below (zQ D cA base h hE (some (.int rE))) args s 0 0 (zA base)) 3 D cA base h 20 [(2, .int q.1)] [] q.2 else zG p l e { frames := 0, cells := 0, slots := 0, locals := 0 } s m args below meth c (MQ below (zQ D cA base h hE (some (.int rE))) args s 0 0 (zA base)) 3 D cA base h 28 [] [] q.2)) ?_ zB ((0 : Int32), h) qq.1 qq.2 hlp ?_
  · intro q e_2 q_2 hf hc0 hc1
    obtain ⟨x2_2, h_2⟩ := q
    have hf : bX12_firstWith_2 h r0 x1 x2_2 h_2 = some (e_2, q_2) := hf
    unfold bX12_firstWith_2 at hf
    show zG p l e { frames := 0, cells := 0, slots := 0, locals := 0 } s m args below meth c (MQ below (zQ D cA base h hE (some (.int rE))) args s 0 0 (zA base)) 3 D cA base h 2 [(0, .ref (base + r0)), (1, .int x1), (2, .int x2_2)] [] h_2
    refine g_iload_n X 2 dX12_firstWith_2 rfl ?_
    refine g_aload_n X 0 dX12_firstWith_3 rfl ?_
    obtain ⟨hk1, hf⟩ := zite hf
    refine g_get X zf12 hk1 17 (by decide) w_f_RX12_356 rfl rfl dX12_firstWith_4 ?_
    refine g_icmp_ge X 28 dX12_firstWith_7 (by decide) (fun hq => ?_) (fun hq => ?_)
    · have hf := zpos hq hf
      cases hf
      have hc1 := hc1 (by decide)
      exact g_sub [] rfl (zun_n (by decide) hc1)
    · have hf := zneg hq hf
      refine g_aload_n X 0 dX12_firstWith_10 rfl ?_
      obtain ⟨r_2, hr_2, hf⟩ := zbd hf
      refine g_get X zf12 hk1 25 (by decide) w_f_RX12_36 rfl (zfv_r hr_2 rfl) dX12_firstWith_11 ?_
      refine g_iload_n X 2 dX12_firstWith_14 rfl ?_
      obtain ⟨hk3, hf⟩ := zite hf
      obtain ⟨hi4, hf⟩ := zite hf
      refine g_iald X hk3 hi4 dX12_firstWith_15 ?_
      refine g_iload_n X 1 dX12_firstWith_16 rfl ?_
      refine g_icmp_ne X 22 dX12_firstWith_17 (by decide) (fun hq => ?_) (fun hq => ?_)
      · have hf := zneg hq hf
        obtain ⟨y5, ey5⟩ : ∃ y : Int32, y = x2_2 + (1 : Int32) := ⟨_, rfl⟩
        have hf := zlet_n ey5 hf
        refine g_iinc X (j := 2) [(2, .int y5), (0, .ref (base + r0)), (1, .int x1)] dX12_firstWith_22 rfl (by rw [ey5]; rfl) (by decide) rfl ?_
        refine g_goto X 2 dX12_firstWith_25 (by decide) ?_
        cases hf
        exact g_sub [1, 2, 0] rfl (hc0 rfl)
      · have hf := zpos hq hf
        cases hf
        have hc1 := hc1 (by decide)
        exact g_sub [2] rfl (zun_p rfl hc1)
  · obtain ⟨ee, x2_k2, h_k2⟩ := qq
    have hf : kX12_firstWith_2 h ee x2_k2 h_k2 = some (rE, hE) := hf
    unfold kX12_firstWith_2 at hf
    by_cases hee0 : ee = 1
    · have hf := zpos hee0 hf
      refine zifp hee0 ?_
      show zG p l e { frames := 0, cells := 0, slots := 0, locals := 0 } s m args below meth c (MQ below (zQ D cA base h hE (some (.int rE))) args s 0 0 (zA base)) 3 D cA base h 20 [(2, .int x2_k2)] [] h_k2
      refine g_iload_n X 0 dX12_firstWith_20 rfl ?_
      obtain ⟨rfl, rfl⟩ := zsm hf
      exact g_iret X hr dX12_firstWith_21
    have hf := zneg hee0 hf
    refine zifn hee0 ?_
    show zG p l e { frames := 0, cells := 0, slots := 0, locals := 0 } s m args below meth c (MQ below (zQ D cA base h hE (some (.int rE))) args s 0 0 (zA base)) 3 D cA base h 28 [] [] h_k2
    refine g_bipush X (v := -2) dX12_firstWith_28 (by decide) ?_
    obtain ⟨rfl, rfl⟩ := zsm hf
    exact g_iret X hr dX12_firstWith_30

set_option maxHeartbeats 4000000 in
set_option maxRecDepth 100000 in
theorem sX12_says {l : Launch} {D : va_G} {cA : Nat → ClassId} {base : Nat} {sA : Nat → Nat} {r0 : Nat} {x1 : Int32} {x2 : Int32} {h hE : Zh} {rE : Int32} (hf : fX12_says r0 x1 x2 h = some (rE, hE)) : zC l yX12_says cX12_says 3 (some .int) 8 191 D cA base sA [.ref (base + r0), .int x1, .int x2] h (some (.int rE)) hE := by
  refine g_entry RX12 (by decide) rfl (Nat.le_of_ble_eq_true rfl) ?_
  intro p e s m args below meth c X hr
  unfold fX12_says at hf
  have hf := zlet_n (x := h) rfl hf
  show zG p l e { frames := 8, cells := 0, slots := 0, locals := 191 } s m args below meth c (MQ below (zQ D cA base h hE (some (.int rE))) args s 0 0 (zA base)) 3 D cA base h 0 [(0, .ref (base + r0)), (1, .int x1), (2, .int x2)] [] h
  refine g_aload_n X 0 dX12_says_0 rfl ?_
  refine g_iconst X (v := 0) dX12_says_1 (by decide) ?_
  obtain ⟨hk1, hf⟩ := zite hf
  refine g_putI X zf12 hk1 0 (by decide) w_f_RX12_86 rfl rfl rfl dX12_says_2 ?_
  refine g_hp (fun h2 eh2 => ?_)
  have hf := zlet_n eh2 hf
  refine g_aload_n X 0 dX12_says_5 rfl ?_
  refine g_iload_n X 1 dX12_says_6 rfl ?_
  obtain ⟨v4, h3, hch3, hf⟩ := zc2_e hf
  refine g_callV X 1 (sX12_isRule hch3) zf12 hk1 ydX12_isRule w_ml_RX12_430 w_instanceMethod_X12_isRule w_sel_X12_isRule w_ini_RX12 w_code_X12_isRule (by decide) rfl (st := []) rfl rfl (Nat.le_of_ble_eq_true rfl) dX12_says_7 ?_
  refine g_if_eq X 21 dX12_says_10 (by decide) (fun hq => ?_) (fun hq => ?_)
  · have hf := zpos hq hf
    refine g_aload_n X 0 dX12_says_21 rfl ?_
    refine g_iconst X (v := 1) dX12_says_22 (by decide) ?_
    obtain ⟨v6, h5, hch5, hf⟩ := zc2_e hf
    refine g_callV X 1 (sX12_refused hch5) zf12 hk1 ydX12_refused w_ml_RX12_92 w_instanceMethod_X12_refused w_sel_X12_refused w_ini_RX12 w_code_X12_refused (by decide) rfl (st := []) rfl rfl (Nat.le_of_ble_eq_true rfl) dX12_says_23 ?_
    obtain ⟨rfl, rfl⟩ := zsm hf
    exact g_iret X hr dX12_says_26
  · have hf := zneg hq hf
    refine g_aload_n X 0 dX12_says_13 rfl ?_
    refine g_iload_n X 2 dX12_says_14 rfl ?_
    obtain ⟨v8, h7, hch7, hf⟩ := zc2_e hf
    refine g_callV X 1 (sX12_isRow hch7) zf12 hk1 ydX12_isRow w_ml_RX12_378 w_instanceMethod_X12_isRow w_sel_X12_isRow w_ini_RX12 w_code_X12_isRow (by decide) rfl (st := []) rfl rfl (Nat.le_of_ble_eq_true rfl) dX12_says_15 ?_
    refine g_if_ne X 27 dX12_says_18 (by decide) (fun hq => ?_) (fun hq => ?_)
    · have hf := zneg hq hf
      refine g_aload_n X 0 dX12_says_27 rfl ?_
      refine g_iload_n X 1 dX12_says_28 rfl ?_
      obtain ⟨h9, hch9, hf⟩ := zbd hf
      refine g_callV X 1 (sX12_laysAll hch9) zf12 hk1 ydX12_laysAll w_ml_RX12_436 w_instanceMethod_X12_laysAll w_sel_X12_laysAll w_ini_RX12 w_code_X12_laysAll (by decide) rfl (st := []) rfl rfl (Nat.le_of_ble_eq_true rfl) dX12_says_29 ?_
      refine g_aload_n X 0 dX12_says_32 rfl ?_
      refine g_aload_n X 0 dX12_says_33 rfl ?_
      refine g_iload_n X 2 dX12_says_34 rfl ?_
      obtain ⟨v11, h10, hch10, hf⟩ := zc2_e hf
      refine g_callV X 1 (sX12_firstWith hch10) zf12 hk1 ydX12_firstWith w_ml_RX12_439 w_instanceMethod_X12_firstWith w_sel_X12_firstWith w_ini_RX12 w_code_X12_firstWith (by decide) rfl (st := [.ref (base + r0)]) rfl rfl (Nat.le_of_ble_eq_true rfl) dX12_says_35 ?_
      obtain ⟨v13, h12, hch12, hf⟩ := zc2_e hf
      refine g_callV X 1 (sX12_good hch12) zf12 hk1 ydX12_good w_ml_RX12_96 w_instanceMethod_X12_good w_sel_X12_good w_ini_RX12 w_code_X12_good (by decide) rfl (st := []) rfl rfl (Nat.le_of_ble_eq_true rfl) dX12_says_38 ?_
      obtain ⟨rfl, rfl⟩ := zsm hf
      exact g_iret X hr dX12_says_41
    · have hf := zpos hq hf
      refine g_aload_n X 0 dX12_says_21 rfl ?_
      refine g_iconst X (v := 1) dX12_says_22 (by decide) ?_
      obtain ⟨v15, h14, hch14, hf⟩ := zc2_e hf
      refine g_callV X 1 (sX12_refused hch14) zf12 hk1 ydX12_refused w_ml_RX12_92 w_instanceMethod_X12_refused w_sel_X12_refused w_ini_RX12 w_code_X12_refused (by decide) rfl (st := []) rfl rfl (Nat.le_of_ble_eq_true rfl) dX12_says_23 ?_
      obtain ⟨rfl, rfl⟩ := zsm hf
      exact g_iret X hr dX12_says_26

set_option maxHeartbeats 4000000 in
set_option maxRecDepth 100000 in
theorem sX12_clashNow {l : Launch} {D : va_G} {cA : Nat → ClassId} {base : Nat} {sA : Nat → Nat} {r0 : Nat} {h hE : Zh} {rE : Int32} (hf : fX12_clashNow r0 h = some (rE, hE)) : zC l yX12_clashNow cX12_clashNow 2 (some .int) 1 22 D cA base sA [.ref (base + r0)] h (some (.int rE)) hE := by
  refine g_entry RX12 (by decide) rfl (Nat.le_of_ble_eq_true rfl) ?_
  intro p e s m args below meth c X hr
  unfold fX12_clashNow at hf
  have hf := zlet_n (x := h) rfl hf
  show zG p l e { frames := 1, cells := 0, slots := 0, locals := 22 } s m args below meth c (MQ below (zQ D cA base h hE (some (.int rE))) args s 0 0 (zA base)) 2 D cA base h 0 [(0, .ref (base + r0))] [] h
  refine g_iconst X (v := 0) dX12_clashNow_0 (by decide) ?_
  refine g_istore_n X [(1, .int ((0 : Int32))), (0, .ref (base + r0))] dX12_clashNow_1 (by decide) rfl ?_
  refine g_sub [1, 0] rfl ?_
  obtain ⟨qq, hlp, hf⟩ := zbd hf
  refine lp_snd (body := (fun q : Int32 × Zh => bX12_clashNow_2 h r0 q.1 q.2)) (P := (fun q : Int32 × Zh => zG p l e { frames := 1, cells := 0, slots := 0, locals := 22 } s m args below meth c (MQ below (zQ D cA base h hE (some (.int rE))) args s 0 0 (zA base)) 2 D cA base h 2 [(0, .ref (base + r0)), (1, .int q.1)] [] q.2)) (E := (fun (en : Nat) (q : Int32 × Zh) => if en = 1 then zG p l e { frames := 1, cells := 0, slots := 0, locals := 22 } s m args below meth c (MQ below (zQ D cA base h hE (some (.int rE))) args s 0 0 (zA base)) 2 D cA base h 35 [(1, .int q.1)] [] q.2 else zG p l e { frames := 1, cells := 0, slots := 0, locals := 22 } s m args below meth c (MQ below (zQ D cA base h hE (some (.int rE))) args s 0 0 (zA base)) 2 D cA base h 43 [] [] q.2)) ?_ zB ((0 : Int32), h) qq.1 qq.2 hlp ?_
  · intro q e_2 q_2 hf hc0 hc1
    obtain ⟨x1_2, h_2⟩ := q
    have hf : bX12_clashNow_2 h r0 x1_2 h_2 = some (e_2, q_2) := hf
    unfold bX12_clashNow_2 at hf
    show zG p l e { frames := 1, cells := 0, slots := 0, locals := 22 } s m args below meth c (MQ below (zQ D cA base h hE (some (.int rE))) args s 0 0 (zA base)) 2 D cA base h 2 [(0, .ref (base + r0)), (1, .int x1_2)] [] h_2
    refine g_iload_n X 1 dX12_clashNow_2 rfl ?_
    refine g_aload_n X 0 dX12_clashNow_3 rfl ?_
    obtain ⟨hk1, hf⟩ := zite hf
    refine g_get X zf12 hk1 17 (by decide) w_f_RX12_356 rfl rfl dX12_clashNow_4 ?_
    refine g_icmp_ge X 43 dX12_clashNow_7 (by decide) (fun hq => ?_) (fun hq => ?_)
    · have hf := zpos hq hf
      cases hf
      have hc1 := hc1 (by decide)
      exact g_sub [] rfl (zun_n (by decide) hc1)
    · have hf := zneg hq hf
      refine g_aload_n X 0 dX12_clashNow_10 rfl ?_
      obtain ⟨r_2, hr_2, hf⟩ := zbd hf
      refine g_get X zf12 hk1 25 (by decide) w_f_RX12_36 rfl (zfv_r hr_2 rfl) dX12_clashNow_11 ?_
      refine g_iload_n X 1 dX12_clashNow_14 rfl ?_
      obtain ⟨hk3, hf⟩ := zite hf
      obtain ⟨hi4, hf⟩ := zite hf
      refine g_iald X hk3 hi4 dX12_clashNow_15 ?_
      refine g_bipush X (v := -2) dX12_clashNow_16 (by decide) ?_
      refine g_icmp_eq X 37 dX12_clashNow_18 (by decide) (fun hq => ?_) (fun hq => ?_)
      · have hf := zpos hq hf
        obtain ⟨y5, ey5⟩ : ∃ y : Int32, y = x1_2 + (1 : Int32) := ⟨_, rfl⟩
        have hf := zlet_n ey5 hf
        refine g_iinc X (j := 1) [(1, .int y5), (0, .ref (base + r0))] dX12_clashNow_37 rfl (by rw [ey5]; rfl) (by decide) rfl ?_
        refine g_goto X 2 dX12_clashNow_40 (by decide) ?_
        cases hf
        exact g_sub [1, 0] rfl (hc0 rfl)
      · have hf := zneg hq hf
        refine g_aload_n X 0 dX12_clashNow_21 rfl ?_
        refine g_aload_n X 0 dX12_clashNow_22 rfl ?_
        obtain ⟨r_6, hr_6, hf⟩ := zbd hf
        refine g_get X zf12 hk1 25 (by decide) w_f_RX12_36 rfl (zfv_r hr_6 rfl) dX12_clashNow_23 ?_
        refine g_iload_n X 1 dX12_clashNow_26 rfl ?_
        obtain ⟨hk7, hf⟩ := zite hf
        obtain ⟨hi8, hf⟩ := zite hf
        refine g_iald X hk7 hi8 dX12_clashNow_27 ?_
        obtain ⟨v10, h9, hch9, hf⟩ := zc2_e hf
        refine g_callV X 1 (sX12_firstWith hch9) zf12 hk1 ydX12_firstWith w_ml_RX12_439 w_instanceMethod_X12_firstWith w_sel_X12_firstWith w_ini_RX12 w_code_X12_firstWith (by decide) rfl (st := []) rfl rfl (Nat.le_of_ble_eq_true rfl) dX12_clashNow_28 ?_
        refine g_iload_n X 1 dX12_clashNow_31 rfl ?_
        refine g_icmp_ge X 37 dX12_clashNow_32 (by decide) (fun hq => ?_) (fun hq => ?_)
        · have hf := zpos hq hf
          obtain ⟨y11, ey11⟩ : ∃ y : Int32, y = x1_2 + (1 : Int32) := ⟨_, rfl⟩
          have hf := zlet_n ey11 hf
          refine g_iinc X (j := 1) [(1, .int y11), (0, .ref (base + r0))] dX12_clashNow_37 rfl (by rw [ey11]; rfl) (by decide) rfl ?_
          refine g_goto X 2 dX12_clashNow_40 (by decide) ?_
          cases hf
          exact g_sub [1, 0] rfl (hc0 rfl)
        · have hf := zneg hq hf
          cases hf
          have hc1 := hc1 (by decide)
          exact g_sub [1] rfl (zun_p rfl hc1)
  · obtain ⟨ee, x1_k2, h_k2⟩ := qq
    have hf : kX12_clashNow_2 h ee x1_k2 h_k2 = some (rE, hE) := hf
    unfold kX12_clashNow_2 at hf
    by_cases hee0 : ee = 1
    · have hf := zpos hee0 hf
      refine zifp hee0 ?_
      show zG p l e { frames := 1, cells := 0, slots := 0, locals := 22 } s m args below meth c (MQ below (zQ D cA base h hE (some (.int rE))) args s 0 0 (zA base)) 2 D cA base h 35 [(1, .int x1_k2)] [] h_k2
      refine g_iload_n X 0 dX12_clashNow_35 rfl ?_
      obtain ⟨rfl, rfl⟩ := zsm hf
      exact g_iret X hr dX12_clashNow_36
    have hf := zneg hee0 hf
    refine zifn hee0 ?_
    show zG p l e { frames := 1, cells := 0, slots := 0, locals := 22 } s m args below meth c (MQ below (zQ D cA base h hE (some (.int rE))) args s 0 0 (zA base)) 2 D cA base h 43 [] [] h_k2
    refine g_bipush X (v := -2) dX12_clashNow_43 (by decide) ?_
    obtain ⟨rfl, rfl⟩ := zsm hf
    exact g_iret X hr dX12_clashNow_45

set_option maxHeartbeats 4000000 in
set_option maxRecDepth 100000 in
theorem sX12_isWorking {l : Launch} {D : va_G} {cA : Nat → ClassId} {base : Nat} {sA : Nat → Nat} {r0 : Nat} {h hE : Zh} {rE : Int32} (hf : fX12_isWorking r0 h = some (rE, hE)) : zC l yX12_isWorking cX12_isWorking 2 (some .boolean) 2 43 D cA base sA [.ref (base + r0)] h (some (.int rE)) hE := by
  refine g_entry RX12 (by decide) rfl (Nat.le_of_ble_eq_true rfl) ?_
  intro p e s m args below meth c X hr
  unfold fX12_isWorking at hf
  have hf := zlet_n (x := h) rfl hf
  show zG p l e { frames := 2, cells := 0, slots := 0, locals := 43 } s m args below meth c (MQ below (zQ D cA base h hE (some (.int rE))) args s 0 0 (zA base)) 2 D cA base h 0 [(0, .ref (base + r0))] [] h
  refine g_iconst X (v := 0) dX12_isWorking_0 (by decide) ?_
  refine g_istore_n X [(1, .int ((0 : Int32))), (0, .ref (base + r0))] dX12_isWorking_1 (by decide) rfl ?_
  refine g_sub [1, 0] rfl ?_
  obtain ⟨qq, hlp, hf⟩ := zbd hf
  refine lp_snd (body := (fun q : Int32 × Zh => bX12_isWorking_2 h r0 q.1 q.2)) (P := (fun q : Int32 × Zh => zG p l e { frames := 2, cells := 0, slots := 0, locals := 43 } s m args below meth c (MQ below (zQ D cA base h hE (some (.int rE))) args s 0 0 (zA base)) 2 D cA base h 2 [(0, .ref (base + r0)), (1, .int q.1)] [] q.2)) (E := (fun (en : Nat) (q : Int32 × Zh) => if en = 1 then zG p l e { frames := 2, cells := 0, slots := 0, locals := 43 } s m args below meth c (MQ below (zQ D cA base h hE (some (.int rE))) args s 0 0 (zA base)) 2 D cA base h 21 [] [] q.2 else zG p l e { frames := 2, cells := 0, slots := 0, locals := 43 } s m args below meth c (MQ below (zQ D cA base h hE (some (.int rE))) args s 0 0 (zA base)) 2 D cA base h 29 [(0, .ref (base + r0))] [] q.2)) ?_ zB ((0 : Int32), h) qq.1 qq.2 hlp ?_
  · intro q e_2 q_2 hf hc0 hc1
    obtain ⟨x1_2, h_2⟩ := q
    have hf : bX12_isWorking_2 h r0 x1_2 h_2 = some (e_2, q_2) := hf
    unfold bX12_isWorking_2 at hf
    show zG p l e { frames := 2, cells := 0, slots := 0, locals := 43 } s m args below meth c (MQ below (zQ D cA base h hE (some (.int rE))) args s 0 0 (zA base)) 2 D cA base h 2 [(0, .ref (base + r0)), (1, .int x1_2)] [] h_2
    refine g_iload_n X 1 dX12_isWorking_2 rfl ?_
    refine g_aload_n X 0 dX12_isWorking_3 rfl ?_
    obtain ⟨hk1, hf⟩ := zite hf
    refine g_get X zf12 hk1 17 (by decide) w_f_RX12_356 rfl rfl dX12_isWorking_4 ?_
    refine g_icmp_ge X 29 dX12_isWorking_7 (by decide) (fun hq => ?_) (fun hq => ?_)
    · have hf := zpos hq hf
      cases hf
      have hc1 := hc1 (by decide)
      exact g_sub [0] rfl (zun_n (by decide) hc1)
    · have hf := zneg hq hf
      refine g_aload_n X 0 dX12_isWorking_10 rfl ?_
      obtain ⟨r_2, hr_2, hf⟩ := zbd hf
      refine g_get X zf12 hk1 25 (by decide) w_f_RX12_36 rfl (zfv_r hr_2 rfl) dX12_isWorking_11 ?_
      refine g_iload_n X 1 dX12_isWorking_14 rfl ?_
      obtain ⟨hk3, hf⟩ := zite hf
      obtain ⟨hi4, hf⟩ := zite hf
      refine g_iald X hk3 hi4 dX12_isWorking_15 ?_
      refine g_bipush X (v := -2) dX12_isWorking_16 (by decide) ?_
      refine g_icmp_ne X 23 dX12_isWorking_18 (by decide) (fun hq => ?_) (fun hq => ?_)
      · have hf := zneg hq hf
        obtain ⟨y5, ey5⟩ : ∃ y : Int32, y = x1_2 + (1 : Int32) := ⟨_, rfl⟩
        have hf := zlet_n ey5 hf
        refine g_iinc X (j := 1) [(1, .int y5), (0, .ref (base + r0))] dX12_isWorking_23 rfl (by rw [ey5]; rfl) (by decide) rfl ?_
        refine g_goto X 2 dX12_isWorking_26 (by decide) ?_
        cases hf
        exact g_sub [1, 0] rfl (hc0 rfl)
      · have hf := zpos hq hf
        cases hf
        have hc1 := hc1 (by decide)
        exact g_sub [] rfl (zun_p rfl hc1)
  · obtain ⟨ee, x1_k2, h_k2⟩ := qq
    have hf : kX12_isWorking_2 h r0 ee x1_k2 h_k2 = some (rE, hE) := hf
    unfold kX12_isWorking_2 at hf
    by_cases hee0 : ee = 1
    · have hf := zpos hee0 hf
      refine zifp hee0 ?_
      show zG p l e { frames := 2, cells := 0, slots := 0, locals := 43 } s m args below meth c (MQ below (zQ D cA base h hE (some (.int rE))) args s 0 0 (zA base)) 2 D cA base h 21 [] [] h_k2
      refine g_iconst X (v := 0) dX12_isWorking_21 (by decide) ?_
      obtain ⟨rfl, rfl⟩ := zsm hf
      exact g_zret X (Or.inl rfl) hr dX12_isWorking_22
    have hf := zneg hee0 hf
    refine zifn hee0 ?_
    show zG p l e { frames := 2, cells := 0, slots := 0, locals := 43 } s m args below meth c (MQ below (zQ D cA base h hE (some (.int rE))) args s 0 0 (zA base)) 2 D cA base h 29 [(0, .ref (base + r0))] [] h_k2
    refine g_aload_n X 0 dX12_isWorking_29 rfl ?_
    obtain ⟨hk6, hf⟩ := zite hf
    obtain ⟨v8, h7, hch7, hf⟩ := zc2_e hf
    refine g_callV X 0 (sX12_clashNow hch7) zf12 hk6 ydX12_clashNow w_ml_RX12_442 w_instanceMethod_X12_clashNow w_sel_X12_clashNow w_ini_RX12 w_code_X12_clashNow (by decide) rfl (st := []) rfl rfl (Nat.le_of_ble_eq_true rfl) dX12_isWorking_30 ?_
    refine g_bipush X (v := -2) dX12_isWorking_33 (by decide) ?_
    refine g_icmp_ne X 42 dX12_isWorking_35 (by decide) (fun hq => ?_) (fun hq => ?_)
    · have hf := zneg hq hf
      refine g_iconst X (v := 0) dX12_isWorking_42 (by decide) ?_
      obtain ⟨rfl, rfl⟩ := zsm hf
      exact g_zret X (Or.inl rfl) hr dX12_isWorking_43
    · have hf := zpos hq hf
      refine g_iconst X (v := 1) dX12_isWorking_38 (by decide) ?_
      refine g_goto X 43 dX12_isWorking_39 (by decide) ?_
      obtain ⟨rfl, rfl⟩ := zsm hf
      exact g_zret X (Or.inr rfl) hr dX12_isWorking_43

set_option maxHeartbeats 4000000 in
set_option maxRecDepth 100000 in
theorem sX12_works {l : Launch} {D : va_G} {cA : Nat → ClassId} {base : Nat} {sA : Nat → Nat} {r0 : Nat} {x1 : Int32} {h hE : Zh} {rE : Int32} (hf : fX12_works r0 x1 h = some (rE, hE)) : zC l yX12_works cX12_works 2 (some .int) 8 191 D cA base sA [.ref (base + r0), .int x1] h (some (.int rE)) hE := by
  refine g_entry RX12 (by decide) rfl (Nat.le_of_ble_eq_true rfl) ?_
  intro p e s m args below meth c X hr
  unfold fX12_works at hf
  have hf := zlet_n (x := h) rfl hf
  show zG p l e { frames := 8, cells := 0, slots := 0, locals := 191 } s m args below meth c (MQ below (zQ D cA base h hE (some (.int rE))) args s 0 0 (zA base)) 2 D cA base h 0 [(0, .ref (base + r0)), (1, .int x1)] [] h
  refine g_aload_n X 0 dX12_works_0 rfl ?_
  refine g_iconst X (v := 0) dX12_works_1 (by decide) ?_
  obtain ⟨hk1, hf⟩ := zite hf
  refine g_putI X zf12 hk1 0 (by decide) w_f_RX12_86 rfl rfl rfl dX12_works_2 ?_
  refine g_hp (fun h2 eh2 => ?_)
  have hf := zlet_n eh2 hf
  refine g_aload_n X 0 dX12_works_5 rfl ?_
  refine g_iload_n X 1 dX12_works_6 rfl ?_
  obtain ⟨v4, h3, hch3, hf⟩ := zc2_e hf
  refine g_callV X 1 (sX12_isRule hch3) zf12 hk1 ydX12_isRule w_ml_RX12_430 w_instanceMethod_X12_isRule w_sel_X12_isRule w_ini_RX12 w_code_X12_isRule (by decide) rfl (st := []) rfl rfl (Nat.le_of_ble_eq_true rfl) dX12_works_7 ?_
  refine g_if_ne X 19 dX12_works_10 (by decide) (fun hq => ?_) (fun hq => ?_)
  · have hf := zneg hq hf
    refine g_aload_n X 0 dX12_works_19 rfl ?_
    refine g_iload_n X 1 dX12_works_20 rfl ?_
    obtain ⟨h5, hch5, hf⟩ := zbd hf
    refine g_callV X 1 (sX12_laysAll hch5) zf12 hk1 ydX12_laysAll w_ml_RX12_436 w_instanceMethod_X12_laysAll w_sel_X12_laysAll w_ini_RX12 w_code_X12_laysAll (by decide) rfl (st := []) rfl rfl (Nat.le_of_ble_eq_true rfl) dX12_works_21 ?_
    refine g_aload_n X 0 dX12_works_24 rfl ?_
    refine g_aload_n X 0 dX12_works_25 rfl ?_
    obtain ⟨v7, h6, hch6, hf⟩ := zc2_e hf
    refine g_callV X 0 (sX12_isWorking hch6) zf12 hk1 ydX12_isWorking w_ml_RX12_445 w_instanceMethod_X12_isWorking w_sel_X12_isWorking w_ini_RX12 w_code_X12_isWorking (by decide) rfl (st := [.ref (base + r0)]) rfl rfl (Nat.le_of_ble_eq_true rfl) dX12_works_26 ?_
    refine g_if_eq X 36 dX12_works_29 (by decide) (fun hq => ?_) (fun hq => ?_)
    · have hf := zpos hq hf
      refine g_iconst X (v := 0) dX12_works_36 (by decide) ?_
      obtain ⟨v9, h8, hch8, hf⟩ := zc2_e hf
      refine g_callV X 1 (sX12_good hch8) zf12 hk1 ydX12_good w_ml_RX12_96 w_instanceMethod_X12_good w_sel_X12_good w_ini_RX12 w_code_X12_good (by decide) rfl (st := []) rfl rfl (Nat.le_of_ble_eq_true rfl) dX12_works_37 ?_
      obtain ⟨rfl, rfl⟩ := zsm hf
      exact g_iret X hr dX12_works_40
    · have hf := zneg hq hf
      refine g_iconst X (v := 1) dX12_works_32 (by decide) ?_
      refine g_goto X 37 dX12_works_33 (by decide) ?_
      obtain ⟨v11, h10, hch10, hf⟩ := zc2_e hf
      refine g_callV X 1 (sX12_good hch10) zf12 hk1 ydX12_good w_ml_RX12_96 w_instanceMethod_X12_good w_sel_X12_good w_ini_RX12 w_code_X12_good (by decide) rfl (st := []) rfl rfl (Nat.le_of_ble_eq_true rfl) dX12_works_37 ?_
      obtain ⟨rfl, rfl⟩ := zsm hf
      exact g_iret X hr dX12_works_40
  · have hf := zpos hq hf
    refine g_aload_n X 0 dX12_works_13 rfl ?_
    refine g_iconst X (v := 1) dX12_works_14 (by decide) ?_
    obtain ⟨v13, h12, hch12, hf⟩ := zc2_e hf
    refine g_callV X 1 (sX12_refused hch12) zf12 hk1 ydX12_refused w_ml_RX12_92 w_instanceMethod_X12_refused w_sel_X12_refused w_ini_RX12 w_code_X12_refused (by decide) rfl (st := []) rfl rfl (Nat.le_of_ble_eq_true rfl) dX12_works_15 ?_
    obtain ⟨rfl, rfl⟩ := zsm hf
    exact g_iret X hr dX12_works_18

set_option maxHeartbeats 4000000 in
set_option maxRecDepth 100000 in
theorem sX12_clash {l : Launch} {D : va_G} {cA : Nat → ClassId} {base : Nat} {sA : Nat → Nat} {r0 : Nat} {x1 : Int32} {x2 : Int32} {h hE : Zh} {rE : Int32} (hf : fX12_clash r0 x1 x2 h = some (rE, hE)) : zC l yX12_clash cX12_clash 4 (some .int) 8 191 D cA base sA [.ref (base + r0), .int x1, .int x2] h (some (.int rE)) hE := by
  refine g_entry RX12 (by decide) rfl (Nat.le_of_ble_eq_true rfl) ?_
  intro p e s m args below meth c X hr
  unfold fX12_clash at hf
  have hf := zlet_n (x := h) rfl hf
  show zG p l e { frames := 8, cells := 0, slots := 0, locals := 191 } s m args below meth c (MQ below (zQ D cA base h hE (some (.int rE))) args s 0 0 (zA base)) 4 D cA base h 0 [(0, .ref (base + r0)), (1, .int x1), (2, .int x2)] [] h
  refine g_aload_n X 0 dX12_clash_0 rfl ?_
  refine g_iconst X (v := 0) dX12_clash_1 (by decide) ?_
  obtain ⟨hk1, hf⟩ := zite hf
  refine g_putI X zf12 hk1 0 (by decide) w_f_RX12_86 rfl rfl rfl dX12_clash_2 ?_
  refine g_hp (fun h2 eh2 => ?_)
  have hf := zlet_n eh2 hf
  refine g_aload_n X 0 dX12_clash_5 rfl ?_
  refine g_iload_n X 1 dX12_clash_6 rfl ?_
  obtain ⟨v4, h3, hch3, hf⟩ := zc2_e hf
  refine g_callV X 1 (sX12_isRule hch3) zf12 hk1 ydX12_isRule w_ml_RX12_430 w_instanceMethod_X12_isRule w_sel_X12_isRule w_ini_RX12 w_code_X12_isRule (by decide) rfl (st := []) rfl rfl (Nat.le_of_ble_eq_true rfl) dX12_clash_7 ?_
  refine g_if_ne X 19 dX12_clash_10 (by decide) (fun hq => ?_) (fun hq => ?_)
  · have hf := zneg hq hf
    refine g_aload_n X 0 dX12_clash_19 rfl ?_
    refine g_iload_n X 1 dX12_clash_20 rfl ?_
    obtain ⟨h5, hch5, hf⟩ := zbd hf
    refine g_callV X 1 (sX12_laysAll hch5) zf12 hk1 ydX12_laysAll w_ml_RX12_436 w_instanceMethod_X12_laysAll w_sel_X12_laysAll w_ini_RX12 w_code_X12_laysAll (by decide) rfl (st := []) rfl rfl (Nat.le_of_ble_eq_true rfl) dX12_clash_21 ?_
    refine g_aload_n X 0 dX12_clash_24 rfl ?_
    obtain ⟨v7, h6, hch6, hf⟩ := zc2_e hf
    refine g_callV X 0 (sX12_clashNow hch6) zf12 hk1 ydX12_clashNow w_ml_RX12_442 w_instanceMethod_X12_clashNow w_sel_X12_clashNow w_ini_RX12 w_code_X12_clashNow (by decide) rfl (st := []) rfl rfl (Nat.le_of_ble_eq_true rfl) dX12_clash_25 ?_
    refine g_istore_n X [(3, .int v7), (0, .ref (base + r0)), (1, .int x1), (2, .int x2)] dX12_clash_28 (by decide) rfl ?_
    refine g_aload_n X 1 dX12_clash_29 rfl ?_
    refine g_iload_n X 0 dX12_clash_30 rfl ?_
    refine g_bipush X (v := -2) dX12_clash_31 (by decide) ?_
    refine g_icmp_eq X 40 dX12_clash_33 (by decide) (fun hq => ?_) (fun hq => ?_)
    · have hf := zpos hq hf
      refine g_iload_n X 0 dX12_clash_40 rfl ?_
      refine g_goto X 54 dX12_clash_41 (by decide) ?_
      obtain ⟨v9, h8, hch8, hf⟩ := zc2_e hf
      refine g_callV X 1 (sX12_good hch8) zf12 hk1 ydX12_good w_ml_RX12_96 w_instanceMethod_X12_good w_sel_X12_good w_ini_RX12 w_code_X12_good (by decide) rfl (st := []) rfl rfl (Nat.le_of_ble_eq_true rfl) dX12_clash_54 ?_
      obtain ⟨rfl, rfl⟩ := zsm hf
      exact g_iret X hr dX12_clash_57
    · have hf := zneg hq hf
      refine g_iload_n X 3 dX12_clash_36 rfl ?_
      refine g_if_ne X 44 dX12_clash_37 (by decide) (fun hq => ?_) (fun hq => ?_)
      · have hf := zneg hq hf
        refine g_aload_n X 1 dX12_clash_44 rfl ?_
        refine g_aload_n X 1 dX12_clash_45 rfl ?_
        obtain ⟨r_10, hr_10, hf⟩ := zbd hf
        refine g_get X zf12 hk1 25 (by decide) w_f_RX12_36 rfl (zfv_r hr_10 rfl) dX12_clash_46 ?_
        refine g_iload_n X 0 dX12_clash_49 rfl ?_
        obtain ⟨hk11, hf⟩ := zite hf
        obtain ⟨hi12, hf⟩ := zite hf
        refine g_iald X hk11 hi12 dX12_clash_50 ?_
        obtain ⟨v14, h13, hch13, hf⟩ := zc2_e hf
        refine g_callV X 1 (sX12_firstWith hch13) zf12 hk1 ydX12_firstWith w_ml_RX12_439 w_instanceMethod_X12_firstWith w_sel_X12_firstWith w_ini_RX12 w_code_X12_firstWith (by decide) rfl (st := [.ref (base + r0)]) rfl rfl (Nat.le_of_ble_eq_true rfl) dX12_clash_51 ?_
        obtain ⟨v16, h15, hch15, hf⟩ := zc2_e hf
        refine g_callV X 1 (sX12_good hch15) zf12 hk1 ydX12_good w_ml_RX12_96 w_instanceMethod_X12_good w_sel_X12_good w_ini_RX12 w_code_X12_good (by decide) rfl (st := []) rfl rfl (Nat.le_of_ble_eq_true rfl) dX12_clash_54 ?_
        obtain ⟨rfl, rfl⟩ := zsm hf
        exact g_iret X hr dX12_clash_57
      · have hf := zpos hq hf
        refine g_iload_n X 0 dX12_clash_40 rfl ?_
        refine g_goto X 54 dX12_clash_41 (by decide) ?_
        obtain ⟨v18, h17, hch17, hf⟩ := zc2_e hf
        refine g_callV X 1 (sX12_good hch17) zf12 hk1 ydX12_good w_ml_RX12_96 w_instanceMethod_X12_good w_sel_X12_good w_ini_RX12 w_code_X12_good (by decide) rfl (st := []) rfl rfl (Nat.le_of_ble_eq_true rfl) dX12_clash_54 ?_
        obtain ⟨rfl, rfl⟩ := zsm hf
        exact g_iret X hr dX12_clash_57
  · have hf := zpos hq hf
    refine g_aload_n X 0 dX12_clash_13 rfl ?_
    refine g_iconst X (v := 1) dX12_clash_14 (by decide) ?_
    obtain ⟨v20, h19, hch19, hf⟩ := zc2_e hf
    refine g_callV X 1 (sX12_refused hch19) zf12 hk1 ydX12_refused w_ml_RX12_92 w_instanceMethod_X12_refused w_sel_X12_refused w_ini_RX12 w_code_X12_refused (by decide) rfl (st := []) rfl rfl (Nat.le_of_ble_eq_true rfl) dX12_clash_15 ?_
    obtain ⟨rfl, rfl⟩ := zsm hf
    exact g_iret X hr dX12_clash_18

set_option maxHeartbeats 4000000 in
set_option maxRecDepth 100000 in
theorem sX12_laid {l : Launch} {D : va_G} {cA : Nat → ClassId} {base : Nat} {sA : Nat → Nat} {r0 : Nat} {x1 : Int32} {h hE : Zh} {rE : Int32} (hf : fX12_laid r0 x1 h = some (rE, hE)) : zC l yX12_laid cX12_laid 4 (some .int) 8 191 D cA base sA [.ref (base + r0), .int x1] h (some (.int rE)) hE := by
  refine g_entry RX12 (by decide) rfl (Nat.le_of_ble_eq_true rfl) ?_
  intro p e s m args below meth c X hr
  unfold fX12_laid at hf
  have hf := zlet_n (x := h) rfl hf
  show zG p l e { frames := 8, cells := 0, slots := 0, locals := 191 } s m args below meth c (MQ below (zQ D cA base h hE (some (.int rE))) args s 0 0 (zA base)) 4 D cA base h 0 [(0, .ref (base + r0)), (1, .int x1)] [] h
  refine g_aload_n X 0 dX12_laid_0 rfl ?_
  refine g_iconst X (v := 0) dX12_laid_1 (by decide) ?_
  obtain ⟨hk1, hf⟩ := zite hf
  refine g_putI X zf12 hk1 0 (by decide) w_f_RX12_86 rfl rfl rfl dX12_laid_2 ?_
  refine g_hp (fun h2 eh2 => ?_)
  have hf := zlet_n eh2 hf
  refine g_aload_n X 0 dX12_laid_5 rfl ?_
  refine g_iload_n X 1 dX12_laid_6 rfl ?_
  obtain ⟨v4, h3, hch3, hf⟩ := zc2_e hf
  refine g_callV X 1 (sX12_isRule hch3) zf12 hk1 ydX12_isRule w_ml_RX12_430 w_instanceMethod_X12_isRule w_sel_X12_isRule w_ini_RX12 w_code_X12_isRule (by decide) rfl (st := []) rfl rfl (Nat.le_of_ble_eq_true rfl) dX12_laid_7 ?_
  refine g_if_ne X 19 dX12_laid_10 (by decide) (fun hq => ?_) (fun hq => ?_)
  · have hf := zneg hq hf
    refine g_aload_n X 0 dX12_laid_19 rfl ?_
    refine g_iload_n X 1 dX12_laid_20 rfl ?_
    obtain ⟨h5, hch5, hf⟩ := zbd hf
    refine g_callV X 1 (sX12_laysAll hch5) zf12 hk1 ydX12_laysAll w_ml_RX12_436 w_instanceMethod_X12_laysAll w_sel_X12_laysAll w_ini_RX12 w_code_X12_laysAll (by decide) rfl (st := []) rfl rfl (Nat.le_of_ble_eq_true rfl) dX12_laid_21 ?_
    refine g_iconst X (v := 0) dX12_laid_24 (by decide) ?_
    refine g_istore_n X [(2, .int ((0 : Int32))), (0, .ref (base + r0)), (1, .int x1)] dX12_laid_25 (by decide) rfl ?_
    refine g_iconst X (v := 0) dX12_laid_26 (by decide) ?_
    refine g_istore_n X [(3, .int ((0 : Int32))), (2, .int ((0 : Int32))), (0, .ref (base + r0)), (1, .int x1)] dX12_laid_27 (by decide) rfl ?_
    refine g_sub [2, 1, 0] rfl ?_
    obtain ⟨qq, hlp, hf⟩ := zbd hf
    refine lp_snd (body := (fun q : Int32 × Int32 × Zh => bX12_laid_28 h r0 q.1 q.2.1 q.2.2)) (P := (fun q : Int32 × Int32 × Zh => zG p l e { frames := 8, cells := 0, slots := 0, locals := 191 } s m args below meth c (MQ below (zQ D cA base h hE (some (.int rE))) args s 0 0 (zA base)) 4 D cA base h 28 [(0, .ref (base + r0)), (2, .int q.1), (3, .int q.2.1)] [] q.2.2)) (E := (fun (en : Nat) (q : Int32 × Int32 × Zh) => zG p l e { frames := 8, cells := 0, slots := 0, locals := 191 } s m args below meth c (MQ below (zQ D cA base h hE (some (.int rE))) args s 0 0 (zA base)) 4 D cA base h 75 [(0, .ref (base + r0)), (2, .int q.1)] [] q.2.2)) ?_ zB ((0 : Int32), ((0 : Int32), h5)) qq.1 qq.2 hlp ?_
    · intro q e_28 q_28 hf hc0 hc1
      obtain ⟨x2_28, x3_28, h_28⟩ := q
      have hf : bX12_laid_28 h r0 x2_28 x3_28 h_28 = some (e_28, q_28) := hf
      unfold bX12_laid_28 at hf
      show zG p l e { frames := 8, cells := 0, slots := 0, locals := 191 } s m args below meth c (MQ below (zQ D cA base h hE (some (.int rE))) args s 0 0 (zA base)) 4 D cA base h 28 [(0, .ref (base + r0)), (2, .int x2_28), (3, .int x3_28)] [] h_28
      refine g_iload_n X 2 dX12_laid_28 rfl ?_
      refine g_aload_n X 0 dX12_laid_29 rfl ?_
      refine g_get X zf12 hk1 17 (by decide) w_f_RX12_356 rfl rfl dX12_laid_30 ?_
      refine g_icmp_ge X 75 dX12_laid_33 (by decide) (fun hq => ?_) (fun hq => ?_)
      · have hf := zpos hq hf
        cases hf
        have hc1 := hc1 (by decide)
        exact g_sub [0, 1] rfl hc1
      · have hf := zneg hq hf
        refine g_iload_n X 1 dX12_laid_36 rfl ?_
        refine g_aload_n X 0 dX12_laid_37 rfl ?_
        obtain ⟨r_6, hr_6, hf⟩ := zbd hf
        refine g_get X zf12 hk1 25 (by decide) w_f_RX12_36 rfl (zfv_r hr_6 rfl) dX12_laid_38 ?_
        refine g_iload_n X 2 dX12_laid_41 rfl ?_
        obtain ⟨hk7, hf⟩ := zite hf
        obtain ⟨hi8, hf⟩ := zite hf
        refine g_iald X hk7 hi8 dX12_laid_42 ?_
        refine g_bipush X (v := -2) dX12_laid_43 (by decide) ?_
        refine g_icmp_eq X 66 dX12_laid_45 (by decide) (fun hq => ?_) (fun hq => ?_)
        · have hf := zpos hq hf
          refine g_iconst X (v := 0) dX12_laid_66 (by decide) ?_
          refine g_iadd X dX12_laid_67 ?_
          refine g_topi (fun y9 ey9 => ?_)
          have hf := zlet_n ey9 hf
          refine g_istore_n X [(2, .int y9), (0, .ref (base + r0)), (3, .int x3_28)] dX12_laid_68 (by decide) rfl ?_
          obtain ⟨y10, ey10⟩ : ∃ y : Int32, y = x3_28 + (1 : Int32) := ⟨_, rfl⟩
          have hf := zlet_n ey10 hf
          refine g_iinc X (j := 2) [(3, .int y10), (2, .int y9), (0, .ref (base + r0))] dX12_laid_69 rfl (by rw [ey10]; rfl) (by decide) rfl ?_
          refine g_goto X 28 dX12_laid_72 (by decide) ?_
          cases hf
          exact g_sub [2, 1, 0] rfl (hc0 rfl)
        · have hf := zneg hq hf
          refine g_aload_n X 0 dX12_laid_48 rfl ?_
          refine g_aload_n X 0 dX12_laid_49 rfl ?_
          obtain ⟨r_11, hr_11, hf⟩ := zbd hf
          refine g_get X zf12 hk1 25 (by decide) w_f_RX12_36 rfl (zfv_r hr_11 rfl) dX12_laid_50 ?_
          refine g_iload_n X 2 dX12_laid_53 rfl ?_
          obtain ⟨hk12, hf⟩ := zite hf
          obtain ⟨hi13, hf⟩ := zite hf
          refine g_iald X hk12 hi13 dX12_laid_54 ?_
          obtain ⟨v15, h14, hch14, hf⟩ := zc2_e hf
          refine g_callV X 1 (sX12_firstWith hch14) zf12 hk1 ydX12_firstWith w_ml_RX12_439 w_instanceMethod_X12_firstWith w_sel_X12_firstWith w_ini_RX12 w_code_X12_firstWith (by decide) rfl (st := [.int x2_28]) rfl rfl (Nat.le_of_ble_eq_true rfl) dX12_laid_55 ?_
          refine g_iload_n X 2 dX12_laid_58 rfl ?_
          refine g_icmp_ne X 66 dX12_laid_59 (by decide) (fun hq => ?_) (fun hq => ?_)
          · have hf := zneg hq hf
            refine g_iconst X (v := 0) dX12_laid_66 (by decide) ?_
            refine g_iadd X dX12_laid_67 ?_
            refine g_topi (fun y16 ey16 => ?_)
            have hf := zlet_n ey16 hf
            refine g_istore_n X [(2, .int y16), (0, .ref (base + r0)), (3, .int x3_28)] dX12_laid_68 (by decide) rfl ?_
            obtain ⟨y17, ey17⟩ : ∃ y : Int32, y = x3_28 + (1 : Int32) := ⟨_, rfl⟩
            have hf := zlet_n ey17 hf
            refine g_iinc X (j := 2) [(3, .int y17), (2, .int y16), (0, .ref (base + r0))] dX12_laid_69 rfl (by rw [ey17]; rfl) (by decide) rfl ?_
            refine g_goto X 28 dX12_laid_72 (by decide) ?_
            cases hf
            exact g_sub [2, 1, 0] rfl (hc0 rfl)
          · have hf := zpos hq hf
            refine g_iconst X (v := 1) dX12_laid_62 (by decide) ?_
            refine g_goto X 67 dX12_laid_63 (by decide) ?_
            refine g_iadd X dX12_laid_67 ?_
            refine g_topi (fun y18 ey18 => ?_)
            have hf := zlet_n ey18 hf
            refine g_istore_n X [(2, .int y18), (0, .ref (base + r0)), (3, .int x3_28)] dX12_laid_68 (by decide) rfl ?_
            obtain ⟨y19, ey19⟩ : ∃ y : Int32, y = x3_28 + (1 : Int32) := ⟨_, rfl⟩
            have hf := zlet_n ey19 hf
            refine g_iinc X (j := 2) [(3, .int y19), (2, .int y18), (0, .ref (base + r0))] dX12_laid_69 rfl (by rw [ey19]; rfl) (by decide) rfl ?_
            refine g_goto X 28 dX12_laid_72 (by decide) ?_
            cases hf
            exact g_sub [2, 1, 0] rfl (hc0 rfl)
    · obtain ⟨ee, x2_k28, x3_k28, h_k28⟩ := qq
      have hf : kX12_laid_28 h r0 ee x2_k28 x3_k28 h_k28 = some (rE, hE) := hf
      unfold kX12_laid_28 at hf
      show zG p l e { frames := 8, cells := 0, slots := 0, locals := 191 } s m args below meth c (MQ below (zQ D cA base h hE (some (.int rE))) args s 0 0 (zA base)) 4 D cA base h 75 [(0, .ref (base + r0)), (2, .int x2_k28)] [] h_k28
      refine g_aload_n X 0 dX12_laid_75 rfl ?_
      refine g_iload_n X 1 dX12_laid_76 rfl ?_
      obtain ⟨v21, h20, hch20, hf⟩ := zc2_e hf
      refine g_callV X 1 (sX12_good hch20) zf12 hk1 ydX12_good w_ml_RX12_96 w_instanceMethod_X12_good w_sel_X12_good w_ini_RX12 w_code_X12_good (by decide) rfl (st := []) rfl rfl (Nat.le_of_ble_eq_true rfl) dX12_laid_77 ?_
      obtain ⟨rfl, rfl⟩ := zsm hf
      exact g_iret X hr dX12_laid_80
  · have hf := zpos hq hf
    refine g_aload_n X 0 dX12_laid_13 rfl ?_
    refine g_iconst X (v := 1) dX12_laid_14 (by decide) ?_
    obtain ⟨v23, h22, hch22, hf⟩ := zc2_e hf
    refine g_callV X 1 (sX12_refused hch22) zf12 hk1 ydX12_refused w_ml_RX12_92 w_instanceMethod_X12_refused w_sel_X12_refused w_ini_RX12 w_code_X12_refused (by decide) rfl (st := []) rfl rfl (Nat.le_of_ble_eq_true rfl) dX12_laid_15 ?_
    obtain ⟨rfl, rfl⟩ := zsm hf
    exact g_iret X hr dX12_laid_18

set_option maxHeartbeats 4000000 in
set_option maxRecDepth 100000 in
theorem sX12_fails {l : Launch} {D : va_G} {cA : Nat → ClassId} {base : Nat} {sA : Nat → Nat} {r0 : Nat} {x1 : Int32} {h hE : Zh} {rE : Int32} (hf : fX12_fails r0 x1 h = some (rE, hE)) : zC l yX12_fails cX12_fails 4 (some .int) 8 191 D cA base sA [.ref (base + r0), .int x1] h (some (.int rE)) hE := by
  refine g_entry RX12 (by decide) rfl (Nat.le_of_ble_eq_true rfl) ?_
  intro p e s m args below meth c X hr
  unfold fX12_fails at hf
  have hf := zlet_n (x := h) rfl hf
  show zG p l e { frames := 8, cells := 0, slots := 0, locals := 191 } s m args below meth c (MQ below (zQ D cA base h hE (some (.int rE))) args s 0 0 (zA base)) 4 D cA base h 0 [(0, .ref (base + r0)), (1, .int x1)] [] h
  refine g_aload_n X 0 dX12_fails_0 rfl ?_
  refine g_iconst X (v := 0) dX12_fails_1 (by decide) ?_
  obtain ⟨hk1, hf⟩ := zite hf
  refine g_putI X zf12 hk1 0 (by decide) w_f_RX12_86 rfl rfl rfl dX12_fails_2 ?_
  refine g_hp (fun h2 eh2 => ?_)
  have hf := zlet_n eh2 hf
  refine g_aload_n X 0 dX12_fails_5 rfl ?_
  refine g_iload_n X 1 dX12_fails_6 rfl ?_
  obtain ⟨v4, h3, hch3, hf⟩ := zc2_e hf
  refine g_callV X 1 (sX12_isRule hch3) zf12 hk1 ydX12_isRule w_ml_RX12_430 w_instanceMethod_X12_isRule w_sel_X12_isRule w_ini_RX12 w_code_X12_isRule (by decide) rfl (st := []) rfl rfl (Nat.le_of_ble_eq_true rfl) dX12_fails_7 ?_
  refine g_if_ne X 19 dX12_fails_10 (by decide) (fun hq => ?_) (fun hq => ?_)
  · have hf := zneg hq hf
    refine g_aload_n X 0 dX12_fails_19 rfl ?_
    refine g_iload_n X 1 dX12_fails_20 rfl ?_
    obtain ⟨h5, hch5, hf⟩ := zbd hf
    refine g_callV X 1 (sX12_laysAll hch5) zf12 hk1 ydX12_laysAll w_ml_RX12_436 w_instanceMethod_X12_laysAll w_sel_X12_laysAll w_ini_RX12 w_code_X12_laysAll (by decide) rfl (st := []) rfl rfl (Nat.le_of_ble_eq_true rfl) dX12_fails_21 ?_
    refine g_iconst X (v := 0) dX12_fails_24 (by decide) ?_
    refine g_istore_n X [(2, .int ((0 : Int32))), (0, .ref (base + r0)), (1, .int x1)] dX12_fails_25 (by decide) rfl ?_
    refine g_iconst X (v := 0) dX12_fails_26 (by decide) ?_
    refine g_istore_n X [(3, .int ((0 : Int32))), (2, .int ((0 : Int32))), (0, .ref (base + r0)), (1, .int x1)] dX12_fails_27 (by decide) rfl ?_
    refine g_sub [2, 1, 0] rfl ?_
    obtain ⟨qq, hlp, hf⟩ := zbd hf
    refine lp_snd (body := (fun q : Int32 × Int32 × Zh => bX12_fails_28 h r0 q.1 q.2.1 q.2.2)) (P := (fun q : Int32 × Int32 × Zh => zG p l e { frames := 8, cells := 0, slots := 0, locals := 191 } s m args below meth c (MQ below (zQ D cA base h hE (some (.int rE))) args s 0 0 (zA base)) 4 D cA base h 28 [(0, .ref (base + r0)), (2, .int q.1), (3, .int q.2.1)] [] q.2.2)) (E := (fun (en : Nat) (q : Int32 × Int32 × Zh) => zG p l e { frames := 8, cells := 0, slots := 0, locals := 191 } s m args below meth c (MQ below (zQ D cA base h hE (some (.int rE))) args s 0 0 (zA base)) 4 D cA base h 61 [(0, .ref (base + r0)), (2, .int q.1)] [] q.2.2)) ?_ zB ((0 : Int32), ((0 : Int32), h5)) qq.1 qq.2 hlp ?_
    · intro q e_28 q_28 hf hc0 hc1
      obtain ⟨x2_28, x3_28, h_28⟩ := q
      have hf : bX12_fails_28 h r0 x2_28 x3_28 h_28 = some (e_28, q_28) := hf
      unfold bX12_fails_28 at hf
      show zG p l e { frames := 8, cells := 0, slots := 0, locals := 191 } s m args below meth c (MQ below (zQ D cA base h hE (some (.int rE))) args s 0 0 (zA base)) 4 D cA base h 28 [(0, .ref (base + r0)), (2, .int x2_28), (3, .int x3_28)] [] h_28
      refine g_iload_n X 2 dX12_fails_28 rfl ?_
      refine g_aload_n X 0 dX12_fails_29 rfl ?_
      refine g_get X zf12 hk1 17 (by decide) w_f_RX12_356 rfl rfl dX12_fails_30 ?_
      refine g_icmp_ge X 61 dX12_fails_33 (by decide) (fun hq => ?_) (fun hq => ?_)
      · have hf := zpos hq hf
        cases hf
        have hc1 := hc1 (by decide)
        exact g_sub [0, 1] rfl hc1
      · have hf := zneg hq hf
        refine g_iload_n X 1 dX12_fails_36 rfl ?_
        refine g_aload_n X 0 dX12_fails_37 rfl ?_
        obtain ⟨r_6, hr_6, hf⟩ := zbd hf
        refine g_get X zf12 hk1 25 (by decide) w_f_RX12_36 rfl (zfv_r hr_6 rfl) dX12_fails_38 ?_
        refine g_iload_n X 2 dX12_fails_41 rfl ?_
        obtain ⟨hk7, hf⟩ := zite hf
        obtain ⟨hi8, hf⟩ := zite hf
        refine g_iald X hk7 hi8 dX12_fails_42 ?_
        refine g_bipush X (v := -2) dX12_fails_43 (by decide) ?_
        refine g_icmp_ne X 52 dX12_fails_45 (by decide) (fun hq => ?_) (fun hq => ?_)
        · have hf := zneg hq hf
          refine g_iconst X (v := 0) dX12_fails_52 (by decide) ?_
          refine g_iadd X dX12_fails_53 ?_
          refine g_topi (fun y9 ey9 => ?_)
          have hf := zlet_n ey9 hf
          refine g_istore_n X [(2, .int y9), (0, .ref (base + r0)), (3, .int x3_28)] dX12_fails_54 (by decide) rfl ?_
          obtain ⟨y10, ey10⟩ : ∃ y : Int32, y = x3_28 + (1 : Int32) := ⟨_, rfl⟩
          have hf := zlet_n ey10 hf
          refine g_iinc X (j := 2) [(3, .int y10), (2, .int y9), (0, .ref (base + r0))] dX12_fails_55 rfl (by rw [ey10]; rfl) (by decide) rfl ?_
          refine g_goto X 28 dX12_fails_58 (by decide) ?_
          cases hf
          exact g_sub [2, 1, 0] rfl (hc0 rfl)
        · have hf := zpos hq hf
          refine g_iconst X (v := 1) dX12_fails_48 (by decide) ?_
          refine g_goto X 53 dX12_fails_49 (by decide) ?_
          refine g_iadd X dX12_fails_53 ?_
          refine g_topi (fun y11 ey11 => ?_)
          have hf := zlet_n ey11 hf
          refine g_istore_n X [(2, .int y11), (0, .ref (base + r0)), (3, .int x3_28)] dX12_fails_54 (by decide) rfl ?_
          obtain ⟨y12, ey12⟩ : ∃ y : Int32, y = x3_28 + (1 : Int32) := ⟨_, rfl⟩
          have hf := zlet_n ey12 hf
          refine g_iinc X (j := 2) [(3, .int y12), (2, .int y11), (0, .ref (base + r0))] dX12_fails_55 rfl (by rw [ey12]; rfl) (by decide) rfl ?_
          refine g_goto X 28 dX12_fails_58 (by decide) ?_
          cases hf
          exact g_sub [2, 1, 0] rfl (hc0 rfl)
    · obtain ⟨ee, x2_k28, x3_k28, h_k28⟩ := qq
      have hf : kX12_fails_28 h r0 ee x2_k28 x3_k28 h_k28 = some (rE, hE) := hf
      unfold kX12_fails_28 at hf
      show zG p l e { frames := 8, cells := 0, slots := 0, locals := 191 } s m args below meth c (MQ below (zQ D cA base h hE (some (.int rE))) args s 0 0 (zA base)) 4 D cA base h 61 [(0, .ref (base + r0)), (2, .int x2_k28)] [] h_k28
      refine g_aload_n X 0 dX12_fails_61 rfl ?_
      refine g_iload_n X 1 dX12_fails_62 rfl ?_
      obtain ⟨v14, h13, hch13, hf⟩ := zc2_e hf
      refine g_callV X 1 (sX12_good hch13) zf12 hk1 ydX12_good w_ml_RX12_96 w_instanceMethod_X12_good w_sel_X12_good w_ini_RX12 w_code_X12_good (by decide) rfl (st := []) rfl rfl (Nat.le_of_ble_eq_true rfl) dX12_fails_63 ?_
      obtain ⟨rfl, rfl⟩ := zsm hf
      exact g_iret X hr dX12_fails_66
  · have hf := zpos hq hf
    refine g_aload_n X 0 dX12_fails_13 rfl ?_
    refine g_iconst X (v := 1) dX12_fails_14 (by decide) ?_
    obtain ⟨v16, h15, hch15, hf⟩ := zc2_e hf
    refine g_callV X 1 (sX12_refused hch15) zf12 hk1 ydX12_refused w_ml_RX12_92 w_instanceMethod_X12_refused w_sel_X12_refused w_ini_RX12 w_code_X12_refused (by decide) rfl (st := []) rfl rfl (Nat.le_of_ble_eq_true rfl) dX12_fails_15 ?_
    obtain ⟨rfl, rfl⟩ := zsm hf
    exact g_iret X hr dX12_fails_18

