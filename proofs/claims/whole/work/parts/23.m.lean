/-! FifthCardModel orders -/
def bX12_orders_84 (g : Zh) (r0 : Nat) (x5 : Int32) (x7 : Int32) (h : Zh) : Option (Nat × Int32 × Zh) :=
  if x7 ≤ x5 then some (1, (x7, h)) else (zR h r0 19).bind fun r_22 => (zR h r0 19).bind fun r_23 => if zK g r_23 = 100 then if zin (x7 - ((1 : Int32))) (zL g r_23) then if zK g r_22 = 100 then if zin x7 (zL g r_22) then zlet (zsI h r_22 x7.toNatClampNeg (zI h r_23 (x7 - ((1 : Int32))).toNatClampNeg)) fun h28 => zlet (x7 + (-1 : Int32)) fun y29 => some (0, (y29, h28)) else none else none else none else none
def kX12_orders_84 (g : Zh) (r0 : Nat) (x4 : Int32) (x5 : Int32) (x8 : Int32) (e : Nat) (x7 : Int32) (h : Zh) : Option (Nat × Int32 × Int32 × Zh) :=
  (zR h r0 19).bind fun r_30 => if zK g r_30 = 100 then if zin x5 (zL g r_30) then zlet (zsI h r_30 x5.toNatClampNeg x8) fun h33 => zlet (x5 + (1 : Int32)) fun y34 => some (0, (x4, (y34, h33))) else none else none
def bX12_orders_16 (g : Zh) (r0 : Nat) (x4 : Int32) (x5 : Int32) (h : Zh) : Option (Nat × Int32 × Int32 × Zh) :=
  (zR h r0 3).bind fun r_5 => if zK g r_5 = 11 then if (zI h r_5 4) ≤ x5 then some (1, (x4, (x5, h))) else (zR h r0 3).bind fun r_7 => if zK g r_7 = 11 then (zR h r0 3).bind fun r_9 => if zK g r_9 = 11 then zc2 (fX12_rowsOf (((zI h r_7 4) - ((1 : Int32))) - x5) (((zI h r_9 4) - ((1 : Int32))) - x5) h) fun v12 h11 => zlet (v12.toInt32) fun y13 => if ¬ y13 = 0 then zlet (x5 + (x4 / y13)) fun y15 => if ¬ y13 = 0 then zlet (zrem x4 y13) fun y17 => (zR h11 r0 19).bind fun r_18 => if zK g r_18 = 100 then if zin y15 (zL g r_18) then zlet (zI h11 r_18 y15.toNatClampNeg) fun y21 => (lp (fun q : Int32 × Zh => bX12_orders_84 g r0 x5 q.1 q.2) zB (y15, h11)).bind fun q => kX12_orders_84 g r0 y17 x5 y21 q.1 q.2.1 q.2.2 else none else none else none else none else none else none else none
def kX12_orders_16 (g : Zh)  (e : Nat) (x4 : Int32) (x5 : Int32) (h : Zh) : Option Zh :=
  some h
def fX12_orders (r0 : Nat) (x1 : Int32) (x2 : Int32) (h : Zh) : Option Zh := zlet h fun g =>
  if zK g r0 = 12 then (zR h r0 3).bind fun r_2 => if zK g r_2 = 11 then zlet ((zI h r_2 4) - x2) fun y4 => (lp (fun q : Int32 × Int32 × Zh => bX12_orders_16 g r0 q.1 q.2.1 q.2.2) zB (x1, (x2, h))).bind fun q => kX12_orders_16 g q.1 q.2.1 q.2.2.1 q.2.2.2 else none else none
/-! FifthCardModel laysWords -/
def jX12_laysWords_187 (g : Zh) (r0 : Nat) (x2 : Int32) (x7 : Int32) (x10 : Int32) (x11 : Int32) (t0 : Int32) (h : Zh) : Option (Nat × Int32 × Int32 × Zh) :=
  if ((x7 >>> (t0 &&& 31)) &&& ((1 : Int32))) = ((1 : Int32)) then zlet (x11 + (1 : Int32)) fun y35 => some (0, (x10, (y35, h))) else (zR h r0 19).bind fun r_29 => if zK g r_29 = 100 then if zin x10 (zL g r_29) then zlet (zsI h r_29 x10.toNatClampNeg t0) fun h32 => zlet (x10 + (1 : Int32)) fun y33 => zlet (x11 + (1 : Int32)) fun y34 => some (0, (y33, (y34, h32))) else none else none
def bX12_laysWords_148 (g : Zh) (r0 : Nat) (x2 : Int32) (x7 : Int32) (x10 : Int32) (x11 : Int32) (h : Zh) : Option (Nat × Int32 × Int32 × Zh) :=
  (zR h r0 3).bind fun r_22 => if zK g r_22 = 11 then if (zI h r_22 2) ≤ x11 then some (1, (x10, (x11, h))) else (zR h r0 3).bind fun r_24 => if zK g r_24 = 11 then if (zI h r_24 7) = 0 then (zR h r0 20).bind fun r_26 => if zK g r_26 = 100 then if zin x11 (zL g r_26) then jX12_laysWords_187 g r0 x2 x7 x10 x11 (zI h r_26 x11.toNatClampNeg) h else none else none else zc2 (fX12_cardOf r0 x2 x11 h) fun v37 h36 => jX12_laysWords_187 g r0 x2 x7 x10 x11 v37 h36 else none else none
def kX12_laysWords_148 (g : Zh) (r0 : Nat) (x9 : Int32) (e : Nat) (x10 : Int32) (x11 : Int32) (h : Zh) : Option (Int32 × Zh) :=
  zc2 (fX12_isOneOrder r0 h) fun v39 h38 => if v39 = 0 then (zR h38 r0 3).bind fun r_40 => if zK g r_40 = 11 then (zR h38 r0 3).bind fun r_42 => if zK g r_42 = 11 then zc2 (fX12_rowsOf (zI h38 r_40 4) (zI h38 r_42 4) h38) fun v45 h44 => zlet (v45.toInt32) fun y46 => if ¬ y46 = 0 then (fX12_orders r0 (zrem x9 y46) ((0 : Int32)) h44).bind fun h48 => (zR h48 r0 19).bind fun r_49 => zc2 (fX12_rowNumber r0 r_49 ((0 : Int32)) h48) fun v51 h50 => (zR h50 r0 3).bind fun r_52 => if zK g r_52 = 11 then zc2 (fX11_tilts r_52 h50) fun v55 h54 => if ¬ y46 = 0 then (zR h54 r0 3).bind fun r_57 => if zK g r_57 = 11 then zc2 (fX11_tilts r_57 h54) fun v60 h59 => if ¬ v60 = 0 then some ((v51 * v55) + (zrem (x9 / y46) v60), h59) else none else none else none else none else none else none else none else (zR h38 r0 19).bind fun r_62 => zc2 (fX12_rowNumber r0 r_62 ((0 : Int32)) h38) fun v64 h63 => (zR h63 r0 3).bind fun r_65 => if zK g r_65 = 11 then zc2 (fX11_tilts r_65 h63) fun v68 h67 => (zR h67 r0 3).bind fun r_69 => if zK g r_69 = 11 then zc2 (fX11_tilts r_69 h67) fun v72 h71 => if ¬ v72 = 0 then some ((v64 * v68) + (zrem x9 v72), h71) else none else none else none
def jX12_laysWords_142 (g : Zh) (r0 : Nat) (x2 : Int32) (x7 : Int32) (x9 : Int32) (h : Zh) : Option (Int32 × Zh) :=
  (lp (fun q : Int32 × Int32 × Zh => bX12_laysWords_148 g r0 x2 x7 q.1 q.2.1 q.2.2) zB ((0 : Int32), ((0 : Int32), h))).bind fun q => kX12_laysWords_148 g r0 x9 q.1 q.2.1 q.2.2.1 q.2.2.2
def jX12_laysWords_84 (g : Zh) (r0 : Nat) (x1 : Int32) (x2 : Int32) (x5 : Int32) (x6 : Int32) (x7 : Int32) (t0 : Int32) (h : Zh) : Option (Int32 × Zh) :=
  if ¬ ((5 : Int32)) = 0 then zc2 (fX12_tells r0 (zrem x1 ((5 : Int32))) t0 x2 x7 h) fun v19 h18 => (zR h18 r0 3).bind fun r_20 => if zK g r_20 = 11 then if (zI h18 r_20 3) = ((2 : Int32)) then (zR h18 r0 3).bind fun r_74 => if zK g r_74 = 11 then if ¬ ((5 : Int32)) = 0 then zc2 (fX12_tells r0 (zrem x1 ((5 : Int32))) ((x5 + x6) - t0) x2 x7 h18) fun v78 h77 => zlet ((v19 * (zI h18 r_74 0)) + v78) fun y79 => jX12_laysWords_142 g r0 x2 x7 y79 h77 else none else none else jX12_laysWords_142 g r0 x2 x7 v19 h18 else none else none
def jX12_laysWords_57 (g : Zh) (r0 : Nat) (x1 : Int32) (x2 : Int32) (x5 : Int32) (t0 : Int32) (h : Zh) : Option (Int32 × Zh) :=
  zlet ((((1 : Int32)) <<< (x5 &&& 31)) ||| (((1 : Int32)) <<< (t0 &&& 31))) fun y16 => if t0 ≤ x5 then jX12_laysWords_84 g r0 x1 x2 x5 t0 y16 t0 h else jX12_laysWords_84 g r0 x1 x2 x5 t0 y16 x5 h
def fX12_laysWords (r0 : Nat) (x1 : Int32) (x2 : Int32) (h : Zh) : Option (Int32 × Zh) := zlet h fun g =>
  if zK g r0 = 12 then (fX12_sorts r0 x2 h).bind fun h2 => if ¬ ((5 : Int32)) = 0 then zc2 (fX12_keepsAt r0 (x1 / ((5 : Int32))) h2) fun v5 h4 => (zR h4 r0 3).bind fun r_6 => if zK g r_6 = 11 then if ¬ (zI h4 r_6 2) = 0 then zlet (zrem (v5 + ((1 : Int32))) (zI h4 r_6 2)) fun y9 => (zR h4 r0 20).bind fun r_10 => if zK g r_10 = 100 then if zin v5 (zL g r_10) then zlet (zI h4 r_10 v5.toNatClampNeg) fun y13 => (zR h4 r0 3).bind fun r_14 => if zK g r_14 = 11 then if (zI h4 r_14 3) = ((2 : Int32)) then (zR h4 r0 20).bind fun r_80 => if zK g r_80 = 100 then if zin y9 (zL g r_80) then jX12_laysWords_57 g r0 x1 x2 y13 (zI h4 r_80 y9.toNatClampNeg) h4 else none else none else jX12_laysWords_57 g r0 x1 x2 y13 y13 h4 else none else none else none else none else none else none else none
/-! FifthCardModel laysSuit -/
def bX12_laysSuit_55 (g : Zh) (r0 : Nat) (x1 : Int32) (x2 : Int32) (x3 : Int32) (x4 : Int32) (x5 : Int32) (x6 : Int32) (h : Zh) : Option (Nat × Int32 × Int32 × Int32 × Zh) :=
  (zR h r0 3).bind fun r_15 => if zK g r_15 = 11 then if (zI h r_15 2) ≤ x4 then some (2, (x4, (0, (0, h)))) else zc2 (fX12_cardOf r0 x1 x3 h) fun v18 h17 => zc2 (fX12_cardOf r0 x1 x4 h17) fun v20 h19 => if ¬ x2 = 0 then if ¬ x2 = 0 then if (v18 / x2) = (v20 / x2) then some (1, (x4, (v18, (v20, h19)))) else zlet (x4 + (1 : Int32)) fun y23 => some (0, (y23, (v18, (v20, h19)))) else none else none else none
def kX12_laysSuit_55 (g : Zh) (r0 : Nat) (x1 : Int32) (x2 : Int32) (x3 : Int32) (e : Nat) (x4 : Int32) (x5 : Int32) (x6 : Int32) (h : Zh) : Option (Nat × Int32 × Int32 × Int32 × Int32 × Zh) :=
  if e = 1 then some (1, (x3, (x4, (x5, (x6, h))))) else zlet (x3 + (1 : Int32)) fun y24 => some (0, (y24, (0, (0, (0, h)))))
def bX12_laysSuit_39 (g : Zh) (r0 : Nat) (x1 : Int32) (x2 : Int32) (x3 : Int32) (x4 : Int32) (x5 : Int32) (x6 : Int32) (h : Zh) : Option (Nat × Int32 × Int32 × Int32 × Int32 × Zh) :=
  (zR h r0 3).bind fun r_12 => if zK g r_12 = 11 then if (zI h r_12 2) ≤ x3 then some (2, (x3, (0, (0, (0, h))))) else zlet (x3 + ((1 : Int32))) fun y14 => (lp (fun q : Int32 × Int32 × Int32 × Zh => bX12_laysSuit_55 g r0 x1 x2 x3 q.1 q.2.1 q.2.2.1 q.2.2.2) zB (y14, (0, (0, h)))).bind fun q => kX12_laysSuit_55 g r0 x1 x2 x3 q.1 q.2.1 q.2.2.1 q.2.2.2.1 q.2.2.2.2 else none
def bX12_laysSuit_197 (g : Zh) (r0 : Nat) (x1 : Int32) (x3 : Int32) (x4 : Int32) (x11 : Int32) (x12 : Int32) (h : Zh) : Option (Nat × Int32 × Int32 × Zh) :=
  (zR h r0 3).bind fun r_37 => if zK g r_37 = 11 then if (zI h r_37 2) ≤ x12 then some (1, (x11, (x12, h))) else if x12 = x3 then zlet (x12 + (1 : Int32)) fun y39 => some (0, (x11, (y39, h))) else if x12 = x4 then zlet (x12 + (1 : Int32)) fun y48 => some (0, (x11, (y48, h))) else (zR h r0 19).bind fun r_40 => zc2 (fX12_cardOf r0 x1 x12 h) fun v42 h41 => if zK g r_40 = 100 then if zin x11 (zL g r_40) then zlet (zsI h41 r_40 x11.toNatClampNeg v42) fun h45 => zlet (x11 + (1 : Int32)) fun y46 => zlet (x12 + (1 : Int32)) fun y47 => some (0, (y46, (y47, h45))) else none else none else none
def kX12_laysSuit_197 (g : Zh) (r0 : Nat) (x10 : Int32) (e : Nat) (x11 : Int32) (x12 : Int32) (h : Zh) : Option (Int32 × Zh) :=
  (fX12_orders r0 x10 ((1 : Int32)) h).bind fun h49 => (zR h49 r0 19).bind fun r_50 => zc2 (fX12_rowNumber r0 r_50 ((0 : Int32)) h49) fun v52 h51 => (zR h51 r0 3).bind fun r_53 => if zK g r_53 = 11 then zc2 (fX11_tilts r_53 h51) fun v56 h55 => some (v52 * v56, h55) else none
def jX12_laysSuit_148 (g : Zh) (r0 : Nat) (x1 : Int32) (x3 : Int32) (x4 : Int32) (x9 : Int32) (t0 : Int32) (h : Zh) : Option (Int32 × Zh) :=
  zlet (t0 - ((1 : Int32))) fun y26 => (zR h r0 3).bind fun r_27 => if zK g r_27 = 11 then (zR h r0 3).bind fun r_29 => if zK g r_29 = 11 then zc2 (fX12_rowsOf ((zI h r_27 4) - ((1 : Int32))) ((zI h r_29 4) - ((1 : Int32))) h) fun v32 h31 => if (lg_cmp y26.toInt64 v32) < 0 then (zR h31 r0 19).bind fun r_33 => if zK g r_33 = 100 then if zin ((0 : Int32)) (zL g r_33) then zlet (zsI h31 r_33 ((0 : Int32)).toNatClampNeg x9) fun h36 => (lp (fun q : Int32 × Int32 × Zh => bX12_laysSuit_197 g r0 x1 x3 x4 q.1 q.2.1 q.2.2) zB ((1 : Int32), ((0 : Int32), h36))).bind fun q => kX12_laysSuit_197 g r0 y26 q.1 q.2.1 q.2.2.1 q.2.2.2 else none else none else some ((-2 : Int32), h31) else none else none
def jX12_laysSuit_132 (g : Zh) (r0 : Nat) (x1 : Int32) (x2 : Int32) (x3 : Int32) (x4 : Int32) (x7 : Int32) (x8 : Int32) (t0 : Int32) (h : Zh) : Option (Int32 × Zh) :=
  if x8 = 0 then jX12_laysSuit_148 g r0 x1 x3 x4 t0 (x2 - x7) h else jX12_laysSuit_148 g r0 x1 x3 x4 t0 x7 h
def jX12_laysSuit_118 (g : Zh) (r0 : Nat) (x1 : Int32) (x2 : Int32) (x3 : Int32) (x4 : Int32) (x5 : Int32) (x6 : Int32) (x7 : Int32) (t0 : Int32) (h : Zh) : Option (Int32 × Zh) :=
  if t0 = 0 then jX12_laysSuit_132 g r0 x1 x2 x3 x4 x7 t0 x6 h else jX12_laysSuit_132 g r0 x1 x2 x3 x4 x7 t0 x5 h
def kX12_laysSuit_39 (g : Zh) (r0 : Nat) (x1 : Int32) (x2 : Int32) (e : Nat) (x3 : Int32) (x4 : Int32) (x5 : Int32) (x6 : Int32) (h : Zh) : Option (Int32 × Zh) :=
  if e = 1 then zlet (x6 - x5) fun y25 => if x2 < (((2 : Int32)) * y25) then jX12_laysSuit_118 g r0 x1 x2 x3 x4 x5 x6 y25 ((0 : Int32)) h else jX12_laysSuit_118 g r0 x1 x2 x3 x4 x5 x6 y25 ((1 : Int32)) h else some ((-2 : Int32), h)
def fX12_laysSuit (r0 : Nat) (x1 : Int32) (h : Zh) : Option (Int32 × Zh) := zlet h fun g =>
  if zK g r0 = 12 then zc2 (fX12_isOneOrder r0 h) fun v3 h2 => if v3 = 0 then (zR h2 r0 3).bind fun r_4 => if zK g r_4 = 11 then if (zI h2 r_4 3) = ((1 : Int32)) then (zR h2 r0 3).bind fun r_6 => if zK g r_6 = 11 then (zR h2 r0 3).bind fun r_8 => if zK g r_8 = 11 then if ¬ (zI h2 r_8 1) = 0 then zlet ((zI h2 r_6 0) / (zI h2 r_8 1)) fun y11 => (lp (fun q : Int32 × Int32 × Int32 × Int32 × Zh => bX12_laysSuit_39 g r0 x1 y11 q.1 q.2.1 q.2.2.1 q.2.2.2.1 q.2.2.2.2) zB ((0 : Int32), (0, (0, (0, h2))))).bind fun q => kX12_laysSuit_39 g r0 x1 y11 q.1 q.2.1 q.2.2.1 q.2.2.2.1 q.2.2.2.2.1 q.2.2.2.2.2 else none else none else none else some ((-2 : Int32), h2) else none else some ((-2 : Int32), h2) else none
/-! FifthCardModel clearOwners -/
def bX12_clearOwners_2 (g : Zh) (r0 : Nat) (x1 : Int32) (h : Zh) : Option (Nat × Int32 × Zh) :=
  if ((32768 : Int32)) ≤ x1 then some (1, (x1, h)) else if zK g r0 = 12 then (zR h r0 27).bind fun r_2 => if zK g r_2 = 100 then if zin x1 (zL g r_2) then zlet (zsI h r_2 x1.toNatClampNeg ((-1 : Int32))) fun h5 => zlet (x1 + (1 : Int32)) fun y6 => some (0, (y6, h5)) else none else none else none
def kX12_clearOwners_2 (g : Zh)  (e : Nat) (x1 : Int32) (h : Zh) : Option Zh :=
  some h
def fX12_clearOwners (r0 : Nat) (h : Zh) : Option Zh := zlet h fun g =>
  (lp (fun q : Int32 × Zh => bX12_clearOwners_2 g r0 q.1 q.2) zB ((0 : Int32), h)).bind fun q => kX12_clearOwners_2 g q.1 q.2.1 q.2.2
theorem dX12_orders_0 : decode cX12_orders 0 = .ok (.aload_n 0, 1) := by decide +kernel
theorem dX12_orders_1 : decode cX12_orders 1 = .ok (.getfield 329, 3) := by decide +kernel
theorem dX12_orders_4 : decode cX12_orders 4 = .ok (.getfield 257, 3) := by decide +kernel
theorem dX12_orders_7 : decode cX12_orders 7 = .ok (.iload_n 2, 1) := by decide +kernel
theorem dX12_orders_8 : decode cX12_orders 8 = .ok (.isub, 1) := by decide +kernel
theorem dX12_orders_9 : decode cX12_orders 9 = .ok (.istore_n 3, 1) := by decide +kernel
theorem dX12_orders_10 : decode cX12_orders 10 = .ok (.iload_n 1, 1) := by decide +kernel
theorem dX12_orders_11 : decode cX12_orders 11 = .ok (.istore 4, 2) := by decide +kernel
theorem dX12_orders_13 : decode cX12_orders 13 = .ok (.iload_n 2, 1) := by decide +kernel
theorem dX12_orders_14 : decode cX12_orders 14 = .ok (.istore 5, 2) := by decide +kernel
theorem dX12_orders_16 : decode cX12_orders 16 = .ok (.iload 5, 2) := by decide +kernel
theorem dX12_orders_18 : decode cX12_orders 18 = .ok (.aload_n 0, 1) := by decide +kernel
theorem dX12_orders_19 : decode cX12_orders 19 = .ok (.getfield 329, 3) := by decide +kernel
theorem dX12_orders_22 : decode cX12_orders 22 = .ok (.getfield 257, 3) := by decide +kernel
theorem dX12_orders_25 : decode cX12_orders 25 = .ok (.if_icmp .ge 103, 3) := by decide +kernel
theorem dX12_orders_28 : decode cX12_orders 28 = .ok (.aload_n 0, 1) := by decide +kernel
theorem dX12_orders_29 : decode cX12_orders 29 = .ok (.getfield 329, 3) := by decide +kernel
theorem dX12_orders_32 : decode cX12_orders 32 = .ok (.getfield 257, 3) := by decide +kernel
theorem dX12_orders_35 : decode cX12_orders 35 = .ok (.iconst 1, 1) := by decide +kernel
theorem dX12_orders_36 : decode cX12_orders 36 = .ok (.isub, 1) := by decide +kernel
theorem dX12_orders_37 : decode cX12_orders 37 = .ok (.iload 5, 2) := by decide +kernel
theorem dX12_orders_39 : decode cX12_orders 39 = .ok (.isub, 1) := by decide +kernel
theorem dX12_orders_40 : decode cX12_orders 40 = .ok (.aload_n 0, 1) := by decide +kernel
theorem dX12_orders_41 : decode cX12_orders 41 = .ok (.getfield 329, 3) := by decide +kernel
theorem dX12_orders_44 : decode cX12_orders 44 = .ok (.getfield 257, 3) := by decide +kernel
theorem dX12_orders_47 : decode cX12_orders 47 = .ok (.iconst 1, 1) := by decide +kernel
theorem dX12_orders_48 : decode cX12_orders 48 = .ok (.isub, 1) := by decide +kernel
theorem dX12_orders_49 : decode cX12_orders 49 = .ok (.iload 5, 2) := by decide +kernel
theorem dX12_orders_51 : decode cX12_orders 51 = .ok (.isub, 1) := by decide +kernel
theorem dX12_orders_52 : decode cX12_orders 52 = .ok (.invokestatic 99, 3) := by decide +kernel
theorem dX12_orders_55 : decode cX12_orders 55 = .ok (.l2i, 1) := by decide +kernel
theorem dX12_orders_56 : decode cX12_orders 56 = .ok (.istore 6, 2) := by decide +kernel
theorem dX12_orders_58 : decode cX12_orders 58 = .ok (.iload 5, 2) := by decide +kernel
theorem dX12_orders_60 : decode cX12_orders 60 = .ok (.iload 4, 2) := by decide +kernel
theorem dX12_orders_62 : decode cX12_orders 62 = .ok (.iload 6, 2) := by decide +kernel
theorem dX12_orders_64 : decode cX12_orders 64 = .ok (.idiv, 1) := by decide +kernel
theorem dX12_orders_65 : decode cX12_orders 65 = .ok (.iadd, 1) := by decide +kernel
theorem dX12_orders_66 : decode cX12_orders 66 = .ok (.istore 7, 2) := by decide +kernel
theorem dX12_orders_68 : decode cX12_orders 68 = .ok (.iload 4, 2) := by decide +kernel
theorem dX12_orders_70 : decode cX12_orders 70 = .ok (.iload 6, 2) := by decide +kernel
theorem dX12_orders_72 : decode cX12_orders 72 = .ok (.irem, 1) := by decide +kernel
theorem dX12_orders_73 : decode cX12_orders 73 = .ok (.istore 4, 2) := by decide +kernel
theorem dX12_orders_75 : decode cX12_orders 75 = .ok (.aload_n 0, 1) := by decide +kernel
theorem dX12_orders_76 : decode cX12_orders 76 = .ok (.getfield 24, 3) := by decide +kernel
theorem dX12_orders_79 : decode cX12_orders 79 = .ok (.iload 7, 2) := by decide +kernel
theorem dX12_orders_81 : decode cX12_orders 81 = .ok (.iaload, 1) := by decide +kernel
theorem dX12_orders_82 : decode cX12_orders 82 = .ok (.istore 8, 2) := by decide +kernel
theorem dX12_orders_84 : decode cX12_orders 84 = .ok (.iload 7, 2) := by decide +kernel
theorem dX12_orders_86 : decode cX12_orders 86 = .ok (.iload 5, 2) := by decide +kernel
theorem dX12_orders_88 : decode cX12_orders 88 = .ok (.if_icmp .le 25, 3) := by decide +kernel
theorem dX12_orders_91 : decode cX12_orders 91 = .ok (.aload_n 0, 1) := by decide +kernel
theorem dX12_orders_92 : decode cX12_orders 92 = .ok (.getfield 24, 3) := by decide +kernel
theorem dX12_orders_95 : decode cX12_orders 95 = .ok (.iload 7, 2) := by decide +kernel
theorem dX12_orders_97 : decode cX12_orders 97 = .ok (.aload_n 0, 1) := by decide +kernel
theorem dX12_orders_98 : decode cX12_orders 98 = .ok (.getfield 24, 3) := by decide +kernel
theorem dX12_orders_101 : decode cX12_orders 101 = .ok (.iload 7, 2) := by decide +kernel
theorem dX12_orders_103 : decode cX12_orders 103 = .ok (.iconst 1, 1) := by decide +kernel
theorem dX12_orders_104 : decode cX12_orders 104 = .ok (.isub, 1) := by decide +kernel
theorem dX12_orders_105 : decode cX12_orders 105 = .ok (.iaload, 1) := by decide +kernel
theorem dX12_orders_106 : decode cX12_orders 106 = .ok (.iastore, 1) := by decide +kernel
theorem dX12_orders_107 : decode cX12_orders 107 = .ok (.iinc 7 (-1), 3) := by decide +kernel
theorem dX12_orders_110 : decode cX12_orders 110 = .ok (.goto (-26), 3) := by decide +kernel
theorem dX12_orders_113 : decode cX12_orders 113 = .ok (.aload_n 0, 1) := by decide +kernel
theorem dX12_orders_114 : decode cX12_orders 114 = .ok (.getfield 24, 3) := by decide +kernel
theorem dX12_orders_117 : decode cX12_orders 117 = .ok (.iload 5, 2) := by decide +kernel
theorem dX12_orders_119 : decode cX12_orders 119 = .ok (.iload 8, 2) := by decide +kernel
theorem dX12_orders_121 : decode cX12_orders 121 = .ok (.iastore, 1) := by decide +kernel
theorem dX12_orders_122 : decode cX12_orders 122 = .ok (.iinc 5 1, 3) := by decide +kernel
theorem dX12_orders_125 : decode cX12_orders 125 = .ok (.goto (-109), 3) := by decide +kernel
theorem dX12_orders_128 : decode cX12_orders 128 = .ok (.return_, 1) := by decide +kernel
theorem dX12_laysWords_0 : decode cX12_laysWords 0 = .ok (.aload_n 0, 1) := by decide +kernel
theorem dX12_laysWords_1 : decode cX12_laysWords 1 = .ok (.iload_n 2, 1) := by decide +kernel
theorem dX12_laysWords_2 : decode cX12_laysWords 2 = .ok (.invokevirtual 406, 3) := by decide +kernel
theorem dX12_laysWords_5 : decode cX12_laysWords 5 = .ok (.aload_n 0, 1) := by decide +kernel
theorem dX12_laysWords_6 : decode cX12_laysWords 6 = .ok (.iload_n 1, 1) := by decide +kernel
theorem dX12_laysWords_7 : decode cX12_laysWords 7 = .ok (.iconst 5, 1) := by decide +kernel
theorem dX12_laysWords_8 : decode cX12_laysWords 8 = .ok (.idiv, 1) := by decide +kernel
theorem dX12_laysWords_9 : decode cX12_laysWords 9 = .ok (.invokevirtual 409, 3) := by decide +kernel
theorem dX12_laysWords_12 : decode cX12_laysWords 12 = .ok (.istore_n 3, 1) := by decide +kernel
theorem dX12_laysWords_13 : decode cX12_laysWords 13 = .ok (.iload_n 3, 1) := by decide +kernel
theorem dX12_laysWords_14 : decode cX12_laysWords 14 = .ok (.iconst 1, 1) := by decide +kernel
theorem dX12_laysWords_15 : decode cX12_laysWords 15 = .ok (.iadd, 1) := by decide +kernel
theorem dX12_laysWords_16 : decode cX12_laysWords 16 = .ok (.aload_n 0, 1) := by decide +kernel
theorem dX12_laysWords_17 : decode cX12_laysWords 17 = .ok (.getfield 329, 3) := by decide +kernel
theorem dX12_laysWords_20 : decode cX12_laysWords 20 = .ok (.getfield 232, 3) := by decide +kernel
theorem dX12_laysWords_23 : decode cX12_laysWords 23 = .ok (.irem, 1) := by decide +kernel
theorem dX12_laysWords_24 : decode cX12_laysWords 24 = .ok (.istore 4, 2) := by decide +kernel
theorem dX12_laysWords_26 : decode cX12_laysWords 26 = .ok (.aload_n 0, 1) := by decide +kernel
theorem dX12_laysWords_27 : decode cX12_laysWords 27 = .ok (.getfield 27, 3) := by decide +kernel
theorem dX12_laysWords_30 : decode cX12_laysWords 30 = .ok (.iload_n 3, 1) := by decide +kernel
theorem dX12_laysWords_31 : decode cX12_laysWords 31 = .ok (.iaload, 1) := by decide +kernel
theorem dX12_laysWords_32 : decode cX12_laysWords 32 = .ok (.istore 5, 2) := by decide +kernel
theorem dX12_laysWords_34 : decode cX12_laysWords 34 = .ok (.aload_n 0, 1) := by decide +kernel
theorem dX12_laysWords_35 : decode cX12_laysWords 35 = .ok (.getfield 329, 3) := by decide +kernel
theorem dX12_laysWords_38 : decode cX12_laysWords 38 = .ok (.getfield 255, 3) := by decide +kernel
theorem dX12_laysWords_41 : decode cX12_laysWords 41 = .ok (.iconst 2, 1) := by decide +kernel
theorem dX12_laysWords_42 : decode cX12_laysWords 42 = .ok (.if_icmp .ne 13, 3) := by decide +kernel
theorem dX12_laysWords_45 : decode cX12_laysWords 45 = .ok (.aload_n 0, 1) := by decide +kernel
theorem dX12_laysWords_46 : decode cX12_laysWords 46 = .ok (.getfield 27, 3) := by decide +kernel
theorem dX12_laysWords_49 : decode cX12_laysWords 49 = .ok (.iload 4, 2) := by decide +kernel
theorem dX12_laysWords_51 : decode cX12_laysWords 51 = .ok (.iaload, 1) := by decide +kernel
theorem dX12_laysWords_52 : decode cX12_laysWords 52 = .ok (.goto 5, 3) := by decide +kernel
theorem dX12_laysWords_55 : decode cX12_laysWords 55 = .ok (.iload 5, 2) := by decide +kernel
theorem dX12_laysWords_57 : decode cX12_laysWords 57 = .ok (.istore 6, 2) := by decide +kernel
theorem dX12_laysWords_59 : decode cX12_laysWords 59 = .ok (.iconst 1, 1) := by decide +kernel
theorem dX12_laysWords_60 : decode cX12_laysWords 60 = .ok (.iload 5, 2) := by decide +kernel
theorem dX12_laysWords_62 : decode cX12_laysWords 62 = .ok (.ishl, 1) := by decide +kernel
theorem dX12_laysWords_63 : decode cX12_laysWords 63 = .ok (.iconst 1, 1) := by decide +kernel
theorem dX12_laysWords_64 : decode cX12_laysWords 64 = .ok (.iload 6, 2) := by decide +kernel
theorem dX12_laysWords_66 : decode cX12_laysWords 66 = .ok (.ishl, 1) := by decide +kernel
theorem dX12_laysWords_67 : decode cX12_laysWords 67 = .ok (.ior, 1) := by decide +kernel
theorem dX12_laysWords_68 : decode cX12_laysWords 68 = .ok (.istore 7, 2) := by decide +kernel
theorem dX12_laysWords_70 : decode cX12_laysWords 70 = .ok (.iload 5, 2) := by decide +kernel
theorem dX12_laysWords_72 : decode cX12_laysWords 72 = .ok (.iload 6, 2) := by decide +kernel
theorem dX12_laysWords_74 : decode cX12_laysWords 74 = .ok (.if_icmp .ge 8, 3) := by decide +kernel
theorem dX12_laysWords_77 : decode cX12_laysWords 77 = .ok (.iload 5, 2) := by decide +kernel
theorem dX12_laysWords_79 : decode cX12_laysWords 79 = .ok (.goto 5, 3) := by decide +kernel
theorem dX12_laysWords_82 : decode cX12_laysWords 82 = .ok (.iload 6, 2) := by decide +kernel
theorem dX12_laysWords_84 : decode cX12_laysWords 84 = .ok (.istore 8, 2) := by decide +kernel
theorem dX12_laysWords_86 : decode cX12_laysWords 86 = .ok (.aload_n 0, 1) := by decide +kernel
theorem dX12_laysWords_87 : decode cX12_laysWords 87 = .ok (.iload_n 1, 1) := by decide +kernel
theorem dX12_laysWords_88 : decode cX12_laysWords 88 = .ok (.iconst 5, 1) := by decide +kernel
theorem dX12_laysWords_89 : decode cX12_laysWords 89 = .ok (.irem, 1) := by decide +kernel
theorem dX12_laysWords_90 : decode cX12_laysWords 90 = .ok (.iload 8, 2) := by decide +kernel
theorem dX12_laysWords_92 : decode cX12_laysWords 92 = .ok (.iload_n 2, 1) := by decide +kernel
theorem dX12_laysWords_93 : decode cX12_laysWords 93 = .ok (.iload 7, 2) := by decide +kernel
theorem dX12_laysWords_95 : decode cX12_laysWords 95 = .ok (.invokevirtual 412, 3) := by decide +kernel
theorem dX12_laysWords_98 : decode cX12_laysWords 98 = .ok (.istore 9, 2) := by decide +kernel
theorem dX12_laysWords_100 : decode cX12_laysWords 100 = .ok (.aload_n 0, 1) := by decide +kernel
theorem dX12_laysWords_101 : decode cX12_laysWords 101 = .ok (.getfield 329, 3) := by decide +kernel
theorem dX12_laysWords_104 : decode cX12_laysWords 104 = .ok (.getfield 255, 3) := by decide +kernel
theorem dX12_laysWords_107 : decode cX12_laysWords 107 = .ok (.iconst 2, 1) := by decide +kernel
theorem dX12_laysWords_108 : decode cX12_laysWords 108 = .ok (.if_icmp .ne 34, 3) := by decide +kernel
theorem dX12_laysWords_111 : decode cX12_laysWords 111 = .ok (.iload 9, 2) := by decide +kernel
theorem dX12_laysWords_113 : decode cX12_laysWords 113 = .ok (.aload_n 0, 1) := by decide +kernel
theorem dX12_laysWords_114 : decode cX12_laysWords 114 = .ok (.getfield 329, 3) := by decide +kernel
theorem dX12_laysWords_117 : decode cX12_laysWords 117 = .ok (.getfield 194, 3) := by decide +kernel
theorem dX12_laysWords_120 : decode cX12_laysWords 120 = .ok (.imul, 1) := by decide +kernel
theorem dX12_laysWords_121 : decode cX12_laysWords 121 = .ok (.aload_n 0, 1) := by decide +kernel
theorem dX12_laysWords_122 : decode cX12_laysWords 122 = .ok (.iload_n 1, 1) := by decide +kernel
theorem dX12_laysWords_123 : decode cX12_laysWords 123 = .ok (.iconst 5, 1) := by decide +kernel
theorem dX12_laysWords_124 : decode cX12_laysWords 124 = .ok (.irem, 1) := by decide +kernel
theorem dX12_laysWords_125 : decode cX12_laysWords 125 = .ok (.iload 5, 2) := by decide +kernel
theorem dX12_laysWords_127 : decode cX12_laysWords 127 = .ok (.iload 6, 2) := by decide +kernel
theorem dX12_laysWords_129 : decode cX12_laysWords 129 = .ok (.iadd, 1) := by decide +kernel
theorem dX12_laysWords_130 : decode cX12_laysWords 130 = .ok (.iload 8, 2) := by decide +kernel
theorem dX12_laysWords_132 : decode cX12_laysWords 132 = .ok (.isub, 1) := by decide +kernel
theorem dX12_laysWords_133 : decode cX12_laysWords 133 = .ok (.iload_n 2, 1) := by decide +kernel
theorem dX12_laysWords_134 : decode cX12_laysWords 134 = .ok (.iload 7, 2) := by decide +kernel
theorem dX12_laysWords_136 : decode cX12_laysWords 136 = .ok (.invokevirtual 412, 3) := by decide +kernel
theorem dX12_laysWords_139 : decode cX12_laysWords 139 = .ok (.iadd, 1) := by decide +kernel
theorem dX12_laysWords_140 : decode cX12_laysWords 140 = .ok (.istore 9, 2) := by decide +kernel
theorem dX12_laysWords_142 : decode cX12_laysWords 142 = .ok (.iconst 0, 1) := by decide +kernel
theorem dX12_laysWords_143 : decode cX12_laysWords 143 = .ok (.istore 10, 2) := by decide +kernel
theorem dX12_laysWords_145 : decode cX12_laysWords 145 = .ok (.iconst 0, 1) := by decide +kernel
theorem dX12_laysWords_146 : decode cX12_laysWords 146 = .ok (.istore 11, 2) := by decide +kernel
theorem dX12_laysWords_148 : decode cX12_laysWords 148 = .ok (.iload 11, 2) := by decide +kernel
theorem dX12_laysWords_150 : decode cX12_laysWords 150 = .ok (.aload_n 0, 1) := by decide +kernel
theorem dX12_laysWords_151 : decode cX12_laysWords 151 = .ok (.getfield 329, 3) := by decide +kernel
theorem dX12_laysWords_154 : decode cX12_laysWords 154 = .ok (.getfield 232, 3) := by decide +kernel
theorem dX12_laysWords_157 : decode cX12_laysWords 157 = .ok (.if_icmp .ge 64, 3) := by decide +kernel
theorem dX12_laysWords_160 : decode cX12_laysWords 160 = .ok (.aload_n 0, 1) := by decide +kernel
theorem dX12_laysWords_161 : decode cX12_laysWords 161 = .ok (.getfield 329, 3) := by decide +kernel
theorem dX12_laysWords_164 : decode cX12_laysWords 164 = .ok (.getfield 228, 3) := by decide +kernel
theorem dX12_laysWords_167 : decode cX12_laysWords 167 = .ok (.ifCond .eq 13, 3) := by decide +kernel
theorem dX12_laysWords_170 : decode cX12_laysWords 170 = .ok (.aload_n 0, 1) := by decide +kernel
theorem dX12_laysWords_171 : decode cX12_laysWords 171 = .ok (.iload_n 2, 1) := by decide +kernel
theorem dX12_laysWords_172 : decode cX12_laysWords 172 = .ok (.iload 11, 2) := by decide +kernel
theorem dX12_laysWords_174 : decode cX12_laysWords 174 = .ok (.invokevirtual 366, 3) := by decide +kernel
theorem dX12_laysWords_177 : decode cX12_laysWords 177 = .ok (.goto 10, 3) := by decide +kernel
theorem dX12_laysWords_180 : decode cX12_laysWords 180 = .ok (.aload_n 0, 1) := by decide +kernel
theorem dX12_laysWords_181 : decode cX12_laysWords 181 = .ok (.getfield 27, 3) := by decide +kernel
theorem dX12_laysWords_184 : decode cX12_laysWords 184 = .ok (.iload 11, 2) := by decide +kernel
theorem dX12_laysWords_186 : decode cX12_laysWords 186 = .ok (.iaload, 1) := by decide +kernel
theorem dX12_laysWords_187 : decode cX12_laysWords 187 = .ok (.istore 12, 2) := by decide +kernel
theorem dX12_laysWords_189 : decode cX12_laysWords 189 = .ok (.iload 7, 2) := by decide +kernel
theorem dX12_laysWords_191 : decode cX12_laysWords 191 = .ok (.iload 12, 2) := by decide +kernel
theorem dX12_laysWords_193 : decode cX12_laysWords 193 = .ok (.ishr, 1) := by decide +kernel
theorem dX12_laysWords_194 : decode cX12_laysWords 194 = .ok (.iconst 1, 1) := by decide +kernel
theorem dX12_laysWords_195 : decode cX12_laysWords 195 = .ok (.iand, 1) := by decide +kernel
theorem dX12_laysWords_196 : decode cX12_laysWords 196 = .ok (.iconst 1, 1) := by decide +kernel
theorem dX12_laysWords_197 : decode cX12_laysWords 197 = .ok (.if_icmp .ne 6, 3) := by decide +kernel
theorem dX12_laysWords_200 : decode cX12_laysWords 200 = .ok (.goto 15, 3) := by decide +kernel
theorem dX12_laysWords_203 : decode cX12_laysWords 203 = .ok (.aload_n 0, 1) := by decide +kernel
theorem dX12_laysWords_204 : decode cX12_laysWords 204 = .ok (.getfield 24, 3) := by decide +kernel
theorem dX12_laysWords_207 : decode cX12_laysWords 207 = .ok (.iload 10, 2) := by decide +kernel
theorem dX12_laysWords_209 : decode cX12_laysWords 209 = .ok (.iload 12, 2) := by decide +kernel
theorem dX12_laysWords_211 : decode cX12_laysWords 211 = .ok (.iastore, 1) := by decide +kernel
theorem dX12_laysWords_212 : decode cX12_laysWords 212 = .ok (.iinc 10 1, 3) := by decide +kernel
theorem dX12_laysWords_215 : decode cX12_laysWords 215 = .ok (.iinc 11 1, 3) := by decide +kernel
theorem dX12_laysWords_218 : decode cX12_laysWords 218 = .ok (.goto (-70), 3) := by decide +kernel
theorem dX12_laysWords_221 : decode cX12_laysWords 221 = .ok (.aload_n 0, 1) := by decide +kernel
theorem dX12_laysWords_222 : decode cX12_laysWords 222 = .ok (.invokevirtual 388, 3) := by decide +kernel
theorem dX12_laysWords_225 : decode cX12_laysWords 225 = .ok (.ifCond .eq 32, 3) := by decide +kernel
theorem dX12_laysWords_228 : decode cX12_laysWords 228 = .ok (.aload_n 0, 1) := by decide +kernel
theorem dX12_laysWords_229 : decode cX12_laysWords 229 = .ok (.aload_n 0, 1) := by decide +kernel
theorem dX12_laysWords_230 : decode cX12_laysWords 230 = .ok (.getfield 24, 3) := by decide +kernel
theorem dX12_laysWords_233 : decode cX12_laysWords 233 = .ok (.iconst 0, 1) := by decide +kernel
theorem dX12_laysWords_234 : decode cX12_laysWords 234 = .ok (.invokevirtual 351, 3) := by decide +kernel
theorem dX12_laysWords_237 : decode cX12_laysWords 237 = .ok (.aload_n 0, 1) := by decide +kernel
theorem dX12_laysWords_238 : decode cX12_laysWords 238 = .ok (.getfield 329, 3) := by decide +kernel
theorem dX12_laysWords_241 : decode cX12_laysWords 241 = .ok (.invokevirtual 354, 3) := by decide +kernel
theorem dX12_laysWords_244 : decode cX12_laysWords 244 = .ok (.imul, 1) := by decide +kernel
theorem dX12_laysWords_245 : decode cX12_laysWords 245 = .ok (.iload 9, 2) := by decide +kernel
theorem dX12_laysWords_247 : decode cX12_laysWords 247 = .ok (.aload_n 0, 1) := by decide +kernel
theorem dX12_laysWords_248 : decode cX12_laysWords 248 = .ok (.getfield 329, 3) := by decide +kernel
theorem dX12_laysWords_251 : decode cX12_laysWords 251 = .ok (.invokevirtual 354, 3) := by decide +kernel
theorem dX12_laysWords_254 : decode cX12_laysWords 254 = .ok (.irem, 1) := by decide +kernel
theorem dX12_laysWords_255 : decode cX12_laysWords 255 = .ok (.iadd, 1) := by decide +kernel
theorem dX12_laysWords_256 : decode cX12_laysWords 256 = .ok (.ireturn, 1) := by decide +kernel
theorem dX12_laysWords_257 : decode cX12_laysWords 257 = .ok (.aload_n 0, 1) := by decide +kernel
theorem dX12_laysWords_258 : decode cX12_laysWords 258 = .ok (.getfield 329, 3) := by decide +kernel
theorem dX12_laysWords_261 : decode cX12_laysWords 261 = .ok (.getfield 257, 3) := by decide +kernel
theorem dX12_laysWords_264 : decode cX12_laysWords 264 = .ok (.aload_n 0, 1) := by decide +kernel
theorem dX12_laysWords_265 : decode cX12_laysWords 265 = .ok (.getfield 329, 3) := by decide +kernel
theorem dX12_laysWords_268 : decode cX12_laysWords 268 = .ok (.getfield 257, 3) := by decide +kernel
theorem dX12_laysWords_271 : decode cX12_laysWords 271 = .ok (.invokestatic 99, 3) := by decide +kernel
theorem dX12_laysWords_274 : decode cX12_laysWords 274 = .ok (.l2i, 1) := by decide +kernel
theorem dX12_laysWords_275 : decode cX12_laysWords 275 = .ok (.istore 11, 2) := by decide +kernel
theorem dX12_laysWords_277 : decode cX12_laysWords 277 = .ok (.aload_n 0, 1) := by decide +kernel
theorem dX12_laysWords_278 : decode cX12_laysWords 278 = .ok (.iload 9, 2) := by decide +kernel
theorem dX12_laysWords_280 : decode cX12_laysWords 280 = .ok (.iload 11, 2) := by decide +kernel
theorem dX12_laysWords_282 : decode cX12_laysWords 282 = .ok (.irem, 1) := by decide +kernel
theorem dX12_laysWords_283 : decode cX12_laysWords 283 = .ok (.iconst 0, 1) := by decide +kernel
theorem dX12_laysWords_284 : decode cX12_laysWords 284 = .ok (.invokevirtual 415, 3) := by decide +kernel
theorem dX12_laysWords_287 : decode cX12_laysWords 287 = .ok (.aload_n 0, 1) := by decide +kernel
theorem dX12_laysWords_288 : decode cX12_laysWords 288 = .ok (.aload_n 0, 1) := by decide +kernel
theorem dX12_laysWords_289 : decode cX12_laysWords 289 = .ok (.getfield 24, 3) := by decide +kernel
theorem dX12_laysWords_292 : decode cX12_laysWords 292 = .ok (.iconst 0, 1) := by decide +kernel
theorem dX12_laysWords_293 : decode cX12_laysWords 293 = .ok (.invokevirtual 351, 3) := by decide +kernel
theorem dX12_laysWords_296 : decode cX12_laysWords 296 = .ok (.aload_n 0, 1) := by decide +kernel
theorem dX12_laysWords_297 : decode cX12_laysWords 297 = .ok (.getfield 329, 3) := by decide +kernel
theorem dX12_laysWords_300 : decode cX12_laysWords 300 = .ok (.invokevirtual 354, 3) := by decide +kernel
theorem dX12_laysWords_303 : decode cX12_laysWords 303 = .ok (.imul, 1) := by decide +kernel
theorem dX12_laysWords_304 : decode cX12_laysWords 304 = .ok (.iload 9, 2) := by decide +kernel
theorem dX12_laysWords_306 : decode cX12_laysWords 306 = .ok (.iload 11, 2) := by decide +kernel
theorem dX12_laysWords_308 : decode cX12_laysWords 308 = .ok (.idiv, 1) := by decide +kernel
theorem dX12_laysWords_309 : decode cX12_laysWords 309 = .ok (.aload_n 0, 1) := by decide +kernel
theorem dX12_laysWords_310 : decode cX12_laysWords 310 = .ok (.getfield 329, 3) := by decide +kernel
theorem dX12_laysWords_313 : decode cX12_laysWords 313 = .ok (.invokevirtual 354, 3) := by decide +kernel
theorem dX12_laysWords_316 : decode cX12_laysWords 316 = .ok (.irem, 1) := by decide +kernel
theorem dX12_laysWords_317 : decode cX12_laysWords 317 = .ok (.iadd, 1) := by decide +kernel
theorem dX12_laysWords_318 : decode cX12_laysWords 318 = .ok (.ireturn, 1) := by decide +kernel
theorem dX12_laysSuit_0 : decode cX12_laysSuit 0 = .ok (.aload_n 0, 1) := by decide +kernel
theorem dX12_laysSuit_1 : decode cX12_laysSuit 1 = .ok (.invokevirtual 388, 3) := by decide +kernel
theorem dX12_laysSuit_4 : decode cX12_laysSuit 4 = .ok (.ifCond .ne 14, 3) := by decide +kernel
theorem dX12_laysSuit_7 : decode cX12_laysSuit 7 = .ok (.aload_n 0, 1) := by decide +kernel
theorem dX12_laysSuit_8 : decode cX12_laysSuit 8 = .ok (.getfield 329, 3) := by decide +kernel
theorem dX12_laysSuit_11 : decode cX12_laysSuit 11 = .ok (.getfield 255, 3) := by decide +kernel
theorem dX12_laysSuit_14 : decode cX12_laysSuit 14 = .ok (.iconst 1, 1) := by decide +kernel
theorem dX12_laysSuit_15 : decode cX12_laysSuit 15 = .ok (.if_icmp .eq 6, 3) := by decide +kernel
theorem dX12_laysSuit_18 : decode cX12_laysSuit 18 = .ok (.bipush (-2), 2) := by decide +kernel
theorem dX12_laysSuit_20 : decode cX12_laysSuit 20 = .ok (.ireturn, 1) := by decide +kernel
theorem dX12_laysSuit_21 : decode cX12_laysSuit 21 = .ok (.aload_n 0, 1) := by decide +kernel
theorem dX12_laysSuit_22 : decode cX12_laysSuit 22 = .ok (.getfield 329, 3) := by decide +kernel
theorem dX12_laysSuit_25 : decode cX12_laysSuit 25 = .ok (.getfield 194, 3) := by decide +kernel
theorem dX12_laysSuit_28 : decode cX12_laysSuit 28 = .ok (.aload_n 0, 1) := by decide +kernel
theorem dX12_laysSuit_29 : decode cX12_laysSuit 29 = .ok (.getfield 329, 3) := by decide +kernel
theorem dX12_laysSuit_32 : decode cX12_laysSuit 32 = .ok (.getfield 253, 3) := by decide +kernel
theorem dX12_laysSuit_35 : decode cX12_laysSuit 35 = .ok (.idiv, 1) := by decide +kernel
theorem dX12_laysSuit_36 : decode cX12_laysSuit 36 = .ok (.istore_n 2, 1) := by decide +kernel
theorem dX12_laysSuit_37 : decode cX12_laysSuit 37 = .ok (.iconst 0, 1) := by decide +kernel
theorem dX12_laysSuit_38 : decode cX12_laysSuit 38 = .ok (.istore_n 3, 1) := by decide +kernel
theorem dX12_laysSuit_39 : decode cX12_laysSuit 39 = .ok (.iload_n 3, 1) := by decide +kernel
theorem dX12_laysSuit_40 : decode cX12_laysSuit 40 = .ok (.aload_n 0, 1) := by decide +kernel
theorem dX12_laysSuit_41 : decode cX12_laysSuit 41 = .ok (.getfield 329, 3) := by decide +kernel
theorem dX12_laysSuit_44 : decode cX12_laysSuit 44 = .ok (.getfield 232, 3) := by decide +kernel
theorem dX12_laysSuit_47 : decode cX12_laysSuit 47 = .ok (.if_icmp .ge 238, 3) := by decide +kernel
theorem dX12_laysSuit_50 : decode cX12_laysSuit 50 = .ok (.iload_n 3, 1) := by decide +kernel
theorem dX12_laysSuit_51 : decode cX12_laysSuit 51 = .ok (.iconst 1, 1) := by decide +kernel
theorem dX12_laysSuit_52 : decode cX12_laysSuit 52 = .ok (.iadd, 1) := by decide +kernel
theorem dX12_laysSuit_53 : decode cX12_laysSuit 53 = .ok (.istore 4, 2) := by decide +kernel
theorem dX12_laysSuit_55 : decode cX12_laysSuit 55 = .ok (.iload 4, 2) := by decide +kernel
theorem dX12_laysSuit_57 : decode cX12_laysSuit 57 = .ok (.aload_n 0, 1) := by decide +kernel
theorem dX12_laysSuit_58 : decode cX12_laysSuit 58 = .ok (.getfield 329, 3) := by decide +kernel
theorem dX12_laysSuit_61 : decode cX12_laysSuit 61 = .ok (.getfield 232, 3) := by decide +kernel
theorem dX12_laysSuit_64 : decode cX12_laysSuit 64 = .ok (.if_icmp .ge 215, 3) := by decide +kernel
theorem dX12_laysSuit_67 : decode cX12_laysSuit 67 = .ok (.aload_n 0, 1) := by decide +kernel
theorem dX12_laysSuit_68 : decode cX12_laysSuit 68 = .ok (.iload_n 1, 1) := by decide +kernel
theorem dX12_laysSuit_69 : decode cX12_laysSuit 69 = .ok (.iload_n 3, 1) := by decide +kernel
theorem dX12_laysSuit_70 : decode cX12_laysSuit 70 = .ok (.invokevirtual 366, 3) := by decide +kernel
theorem dX12_laysSuit_73 : decode cX12_laysSuit 73 = .ok (.istore 5, 2) := by decide +kernel
theorem dX12_laysSuit_75 : decode cX12_laysSuit 75 = .ok (.aload_n 0, 1) := by decide +kernel
theorem dX12_laysSuit_76 : decode cX12_laysSuit 76 = .ok (.iload_n 1, 1) := by decide +kernel
theorem dX12_laysSuit_77 : decode cX12_laysSuit 77 = .ok (.iload 4, 2) := by decide +kernel
theorem dX12_laysSuit_79 : decode cX12_laysSuit 79 = .ok (.invokevirtual 366, 3) := by decide +kernel
theorem dX12_laysSuit_82 : decode cX12_laysSuit 82 = .ok (.istore 6, 2) := by decide +kernel
theorem dX12_laysSuit_84 : decode cX12_laysSuit 84 = .ok (.iload 5, 2) := by decide +kernel
theorem dX12_laysSuit_86 : decode cX12_laysSuit 86 = .ok (.iload_n 2, 1) := by decide +kernel
theorem dX12_laysSuit_87 : decode cX12_laysSuit 87 = .ok (.idiv, 1) := by decide +kernel
theorem dX12_laysSuit_88 : decode cX12_laysSuit 88 = .ok (.iload 6, 2) := by decide +kernel
theorem dX12_laysSuit_90 : decode cX12_laysSuit 90 = .ok (.iload_n 2, 1) := by decide +kernel
theorem dX12_laysSuit_91 : decode cX12_laysSuit 91 = .ok (.idiv, 1) := by decide +kernel
theorem dX12_laysSuit_92 : decode cX12_laysSuit 92 = .ok (.if_icmp .eq 6, 3) := by decide +kernel
theorem dX12_laysSuit_95 : decode cX12_laysSuit 95 = .ok (.goto 178, 3) := by decide +kernel
theorem dX12_laysSuit_98 : decode cX12_laysSuit 98 = .ok (.iload 6, 2) := by decide +kernel
theorem dX12_laysSuit_100 : decode cX12_laysSuit 100 = .ok (.iload 5, 2) := by decide +kernel
theorem dX12_laysSuit_102 : decode cX12_laysSuit 102 = .ok (.isub, 1) := by decide +kernel
theorem dX12_laysSuit_103 : decode cX12_laysSuit 103 = .ok (.istore 7, 2) := by decide +kernel
theorem dX12_laysSuit_105 : decode cX12_laysSuit 105 = .ok (.iconst 2, 1) := by decide +kernel
theorem dX12_laysSuit_106 : decode cX12_laysSuit 106 = .ok (.iload 7, 2) := by decide +kernel
theorem dX12_laysSuit_108 : decode cX12_laysSuit 108 = .ok (.imul, 1) := by decide +kernel
theorem dX12_laysSuit_109 : decode cX12_laysSuit 109 = .ok (.iload_n 2, 1) := by decide +kernel
theorem dX12_laysSuit_110 : decode cX12_laysSuit 110 = .ok (.if_icmp .gt 7, 3) := by decide +kernel
theorem dX12_laysSuit_113 : decode cX12_laysSuit 113 = .ok (.iconst 1, 1) := by decide +kernel
theorem dX12_laysSuit_114 : decode cX12_laysSuit 114 = .ok (.goto 4, 3) := by decide +kernel
theorem dX12_laysSuit_117 : decode cX12_laysSuit 117 = .ok (.iconst 0, 1) := by decide +kernel
theorem dX12_laysSuit_118 : decode cX12_laysSuit 118 = .ok (.istore 8, 2) := by decide +kernel
theorem dX12_laysSuit_120 : decode cX12_laysSuit 120 = .ok (.iload 8, 2) := by decide +kernel
theorem dX12_laysSuit_122 : decode cX12_laysSuit 122 = .ok (.ifCond .eq 8, 3) := by decide +kernel
theorem dX12_laysSuit_125 : decode cX12_laysSuit 125 = .ok (.iload 5, 2) := by decide +kernel
theorem dX12_laysSuit_127 : decode cX12_laysSuit 127 = .ok (.goto 5, 3) := by decide +kernel
theorem dX12_laysSuit_130 : decode cX12_laysSuit 130 = .ok (.iload 6, 2) := by decide +kernel
theorem dX12_laysSuit_132 : decode cX12_laysSuit 132 = .ok (.istore 9, 2) := by decide +kernel
theorem dX12_laysSuit_134 : decode cX12_laysSuit 134 = .ok (.iload 8, 2) := by decide +kernel
theorem dX12_laysSuit_136 : decode cX12_laysSuit 136 = .ok (.ifCond .eq 8, 3) := by decide +kernel
theorem dX12_laysSuit_139 : decode cX12_laysSuit 139 = .ok (.iload 7, 2) := by decide +kernel
theorem dX12_laysSuit_141 : decode cX12_laysSuit 141 = .ok (.goto 7, 3) := by decide +kernel
theorem dX12_laysSuit_144 : decode cX12_laysSuit 144 = .ok (.iload_n 2, 1) := by decide +kernel
theorem dX12_laysSuit_145 : decode cX12_laysSuit 145 = .ok (.iload 7, 2) := by decide +kernel
theorem dX12_laysSuit_147 : decode cX12_laysSuit 147 = .ok (.isub, 1) := by decide +kernel
theorem dX12_laysSuit_148 : decode cX12_laysSuit 148 = .ok (.iconst 1, 1) := by decide +kernel
theorem dX12_laysSuit_149 : decode cX12_laysSuit 149 = .ok (.isub, 1) := by decide +kernel
theorem dX12_laysSuit_150 : decode cX12_laysSuit 150 = .ok (.istore 10, 2) := by decide +kernel
theorem dX12_laysSuit_152 : decode cX12_laysSuit 152 = .ok (.iload 10, 2) := by decide +kernel
theorem dX12_laysSuit_154 : decode cX12_laysSuit 154 = .ok (.i2l, 1) := by decide +kernel
theorem dX12_laysSuit_155 : decode cX12_laysSuit 155 = .ok (.aload_n 0, 1) := by decide +kernel
theorem dX12_laysSuit_156 : decode cX12_laysSuit 156 = .ok (.getfield 329, 3) := by decide +kernel
theorem dX12_laysSuit_159 : decode cX12_laysSuit 159 = .ok (.getfield 257, 3) := by decide +kernel
theorem dX12_laysSuit_162 : decode cX12_laysSuit 162 = .ok (.iconst 1, 1) := by decide +kernel
theorem dX12_laysSuit_163 : decode cX12_laysSuit 163 = .ok (.isub, 1) := by decide +kernel
theorem dX12_laysSuit_164 : decode cX12_laysSuit 164 = .ok (.aload_n 0, 1) := by decide +kernel
theorem dX12_laysSuit_165 : decode cX12_laysSuit 165 = .ok (.getfield 329, 3) := by decide +kernel
theorem dX12_laysSuit_168 : decode cX12_laysSuit 168 = .ok (.getfield 257, 3) := by decide +kernel
theorem dX12_laysSuit_171 : decode cX12_laysSuit 171 = .ok (.iconst 1, 1) := by decide +kernel
theorem dX12_laysSuit_172 : decode cX12_laysSuit 172 = .ok (.isub, 1) := by decide +kernel
theorem dX12_laysSuit_173 : decode cX12_laysSuit 173 = .ok (.invokestatic 99, 3) := by decide +kernel
theorem dX12_laysSuit_176 : decode cX12_laysSuit 176 = .ok (.lcmp, 1) := by decide +kernel
theorem dX12_laysSuit_177 : decode cX12_laysSuit 177 = .ok (.ifCond .lt 6, 3) := by decide +kernel
theorem dX12_laysSuit_180 : decode cX12_laysSuit 180 = .ok (.bipush (-2), 2) := by decide +kernel
theorem dX12_laysSuit_182 : decode cX12_laysSuit 182 = .ok (.ireturn, 1) := by decide +kernel
theorem dX12_laysSuit_183 : decode cX12_laysSuit 183 = .ok (.aload_n 0, 1) := by decide +kernel
theorem dX12_laysSuit_184 : decode cX12_laysSuit 184 = .ok (.getfield 24, 3) := by decide +kernel
theorem dX12_laysSuit_187 : decode cX12_laysSuit 187 = .ok (.iconst 0, 1) := by decide +kernel
theorem dX12_laysSuit_188 : decode cX12_laysSuit 188 = .ok (.iload 9, 2) := by decide +kernel
theorem dX12_laysSuit_190 : decode cX12_laysSuit 190 = .ok (.iastore, 1) := by decide +kernel
theorem dX12_laysSuit_191 : decode cX12_laysSuit 191 = .ok (.iconst 1, 1) := by decide +kernel
theorem dX12_laysSuit_192 : decode cX12_laysSuit 192 = .ok (.istore 11, 2) := by decide +kernel
theorem dX12_laysSuit_194 : decode cX12_laysSuit 194 = .ok (.iconst 0, 1) := by decide +kernel
theorem dX12_laysSuit_195 : decode cX12_laysSuit 195 = .ok (.istore 12, 2) := by decide +kernel
theorem dX12_laysSuit_197 : decode cX12_laysSuit 197 = .ok (.iload 12, 2) := by decide +kernel
theorem dX12_laysSuit_199 : decode cX12_laysSuit 199 = .ok (.aload_n 0, 1) := by decide +kernel
theorem dX12_laysSuit_200 : decode cX12_laysSuit 200 = .ok (.getfield 329, 3) := by decide +kernel
theorem dX12_laysSuit_203 : decode cX12_laysSuit 203 = .ok (.getfield 232, 3) := by decide +kernel
theorem dX12_laysSuit_206 : decode cX12_laysSuit 206 = .ok (.if_icmp .ge 42, 3) := by decide +kernel
theorem dX12_laysSuit_209 : decode cX12_laysSuit 209 = .ok (.iload 12, 2) := by decide +kernel
theorem dX12_laysSuit_211 : decode cX12_laysSuit 211 = .ok (.iload_n 3, 1) := by decide +kernel
theorem dX12_laysSuit_212 : decode cX12_laysSuit 212 = .ok (.if_icmp .eq 30, 3) := by decide +kernel
theorem dX12_laysSuit_215 : decode cX12_laysSuit 215 = .ok (.iload 12, 2) := by decide +kernel
theorem dX12_laysSuit_217 : decode cX12_laysSuit 217 = .ok (.iload 4, 2) := by decide +kernel
theorem dX12_laysSuit_219 : decode cX12_laysSuit 219 = .ok (.if_icmp .ne 6, 3) := by decide +kernel
theorem dX12_laysSuit_222 : decode cX12_laysSuit 222 = .ok (.goto 20, 3) := by decide +kernel
theorem dX12_laysSuit_225 : decode cX12_laysSuit 225 = .ok (.aload_n 0, 1) := by decide +kernel
theorem dX12_laysSuit_226 : decode cX12_laysSuit 226 = .ok (.getfield 24, 3) := by decide +kernel
theorem dX12_laysSuit_229 : decode cX12_laysSuit 229 = .ok (.iload 11, 2) := by decide +kernel
theorem dX12_laysSuit_231 : decode cX12_laysSuit 231 = .ok (.aload_n 0, 1) := by decide +kernel
theorem dX12_laysSuit_232 : decode cX12_laysSuit 232 = .ok (.iload_n 1, 1) := by decide +kernel
theorem dX12_laysSuit_233 : decode cX12_laysSuit 233 = .ok (.iload 12, 2) := by decide +kernel
theorem dX12_laysSuit_235 : decode cX12_laysSuit 235 = .ok (.invokevirtual 366, 3) := by decide +kernel
theorem dX12_laysSuit_238 : decode cX12_laysSuit 238 = .ok (.iastore, 1) := by decide +kernel
theorem dX12_laysSuit_239 : decode cX12_laysSuit 239 = .ok (.iinc 11 1, 3) := by decide +kernel
theorem dX12_laysSuit_242 : decode cX12_laysSuit 242 = .ok (.iinc 12 1, 3) := by decide +kernel
theorem dX12_laysSuit_245 : decode cX12_laysSuit 245 = .ok (.goto (-48), 3) := by decide +kernel
theorem dX12_laysSuit_248 : decode cX12_laysSuit 248 = .ok (.aload_n 0, 1) := by decide +kernel
theorem dX12_laysSuit_249 : decode cX12_laysSuit 249 = .ok (.iload 10, 2) := by decide +kernel
theorem dX12_laysSuit_251 : decode cX12_laysSuit 251 = .ok (.iconst 1, 1) := by decide +kernel
theorem dX12_laysSuit_252 : decode cX12_laysSuit 252 = .ok (.invokevirtual 415, 3) := by decide +kernel
theorem dX12_laysSuit_255 : decode cX12_laysSuit 255 = .ok (.aload_n 0, 1) := by decide +kernel
theorem dX12_laysSuit_256 : decode cX12_laysSuit 256 = .ok (.aload_n 0, 1) := by decide +kernel
theorem dX12_laysSuit_257 : decode cX12_laysSuit 257 = .ok (.getfield 24, 3) := by decide +kernel
theorem dX12_laysSuit_260 : decode cX12_laysSuit 260 = .ok (.iconst 0, 1) := by decide +kernel
theorem dX12_laysSuit_261 : decode cX12_laysSuit 261 = .ok (.invokevirtual 351, 3) := by decide +kernel
theorem dX12_laysSuit_264 : decode cX12_laysSuit 264 = .ok (.aload_n 0, 1) := by decide +kernel
theorem dX12_laysSuit_265 : decode cX12_laysSuit 265 = .ok (.getfield 329, 3) := by decide +kernel
theorem dX12_laysSuit_268 : decode cX12_laysSuit 268 = .ok (.invokevirtual 354, 3) := by decide +kernel
theorem dX12_laysSuit_271 : decode cX12_laysSuit 271 = .ok (.imul, 1) := by decide +kernel
theorem dX12_laysSuit_272 : decode cX12_laysSuit 272 = .ok (.ireturn, 1) := by decide +kernel
theorem dX12_laysSuit_273 : decode cX12_laysSuit 273 = .ok (.iinc 4 1, 3) := by decide +kernel
theorem dX12_laysSuit_276 : decode cX12_laysSuit 276 = .ok (.goto (-221), 3) := by decide +kernel
theorem dX12_laysSuit_279 : decode cX12_laysSuit 279 = .ok (.iinc 3 1, 3) := by decide +kernel
theorem dX12_laysSuit_282 : decode cX12_laysSuit 282 = .ok (.goto (-243), 3) := by decide +kernel
theorem dX12_laysSuit_285 : decode cX12_laysSuit 285 = .ok (.bipush (-2), 2) := by decide +kernel
theorem dX12_laysSuit_287 : decode cX12_laysSuit 287 = .ok (.ireturn, 1) := by decide +kernel
theorem dX12_clearOwners_0 : decode cX12_clearOwners 0 = .ok (.iconst 0, 1) := by decide +kernel
theorem dX12_clearOwners_1 : decode cX12_clearOwners 1 = .ok (.istore_n 1, 1) := by decide +kernel
theorem dX12_clearOwners_2 : decode cX12_clearOwners 2 = .ok (.iload_n 1, 1) := by decide +kernel
theorem dX12_clearOwners_3 : decode cX12_clearOwners 3 = .ok (.ldc 42, 2) := by decide +kernel
theorem dX12_clearOwners_5 : decode cX12_clearOwners 5 = .ok (.if_icmp .ge 16, 3) := by decide +kernel
theorem dX12_clearOwners_8 : decode cX12_clearOwners 8 = .ok (.aload_n 0, 1) := by decide +kernel
theorem dX12_clearOwners_9 : decode cX12_clearOwners 9 = .ok (.getfield 43, 3) := by decide +kernel
theorem dX12_clearOwners_12 : decode cX12_clearOwners 12 = .ok (.iload_n 1, 1) := by decide +kernel
theorem dX12_clearOwners_13 : decode cX12_clearOwners 13 = .ok (.iconst (-1), 1) := by decide +kernel
theorem dX12_clearOwners_14 : decode cX12_clearOwners 14 = .ok (.iastore, 1) := by decide +kernel
theorem dX12_clearOwners_15 : decode cX12_clearOwners 15 = .ok (.iinc 1 1, 3) := by decide +kernel
theorem dX12_clearOwners_18 : decode cX12_clearOwners 18 = .ok (.goto (-16), 3) := by decide +kernel
theorem dX12_clearOwners_21 : decode cX12_clearOwners 21 = .ok (.return_, 1) := by decide +kernel
set_option maxHeartbeats 4000000 in
set_option maxRecDepth 100000 in
theorem sX12_orders {l : Launch} {D : va_G} {cA : Nat → ClassId} {base : Nat} {sA : Nat → Nat} {r0 : Nat} {x1 : Int32} {x2 : Int32} {h hE : Zh} (hf : fX12_orders r0 x1 x2 h = some hE) : zC l yX12_orders cX12_orders 9 none 1 24 D cA base sA [.ref (base + r0), .int x1, .int x2] h none hE := by
  refine g_entry RX12 (by decide) rfl (Nat.le_of_ble_eq_true rfl) ?_
  intro p e s m args below meth c X hr
  unfold fX12_orders at hf
  have hf := zlet_n (x := h) rfl hf
  show zG p l e { frames := 1, cells := 0, slots := 0, locals := 24 } s m args below meth c (MQ below (zQ D cA base h hE none) args s 0 0 (zA base)) 9 D cA base h 0 [(0, .ref (base + r0)), (1, .int x1), (2, .int x2)] [] h
  refine g_aload_n X 0 dX12_orders_0 rfl ?_
  obtain ⟨hk1, hf⟩ := zite hf
  obtain ⟨r_2, hr_2, hf⟩ := zbd hf
  refine g_get X zf12 hk1 3 (by decide) w_f_RX12_329 rfl (zfv_r hr_2 rfl) dX12_orders_1 ?_
  obtain ⟨hk3, hf⟩ := zite hf
  refine g_getN X zf11 hk3 4 (by decide) w_fn_RX12_257 rfl rfl dX12_orders_4 ?_
  refine g_iload_n X 2 dX12_orders_7 rfl ?_
  refine g_isub X dX12_orders_8 ?_
  refine g_topi (fun y4 ey4 => ?_)
  have hf := zlet_n ey4 hf
  refine g_istore_n X [(3, .int y4), (0, .ref (base + r0)), (1, .int x1), (2, .int x2)] dX12_orders_9 (by decide) rfl ?_
  refine g_iload_n X 2 dX12_orders_10 rfl ?_
  refine g_istore X [(4, .int x1), (3, .int y4), (0, .ref (base + r0)), (1, .int x1), (2, .int x2)] dX12_orders_11 (by decide) rfl ?_
  refine g_iload_n X 4 dX12_orders_13 rfl ?_
  refine g_istore X [(5, .int x2), (4, .int x1), (3, .int y4), (0, .ref (base + r0)), (1, .int x1), (2, .int x2)] dX12_orders_14 (by decide) rfl ?_
  refine g_sub [3, 1, 0] rfl ?_
  obtain ⟨qq, hlp, hf⟩ := zbd hf
  refine lp_snd (body := (fun q : Int32 × Int32 × Zh => bX12_orders_16 h r0 q.1 q.2.1 q.2.2)) (P := (fun q : Int32 × Int32 × Zh => zG p l e { frames := 1, cells := 0, slots := 0, locals := 24 } s m args below meth c (MQ below (zQ D cA base h hE none) args s 0 0 (zA base)) 9 D cA base h 16 [(0, .ref (base + r0)), (4, .int q.1), (5, .int q.2.1)] [] q.2.2)) (E := (fun (en : Nat) (q : Int32 × Int32 × Zh) => zG p l e { frames := 1, cells := 0, slots := 0, locals := 24 } s m args below meth c (MQ below (zQ D cA base h hE none) args s 0 0 (zA base)) 9 D cA base h 128 [] [] q.2.2)) ?_ zB (x1, (x2, h)) qq.1 qq.2 hlp ?_
  · intro q e_16 q_16 hf hc0 hc1
    obtain ⟨x4_16, x5_16, h_16⟩ := q
    have hf : bX12_orders_16 h r0 x4_16 x5_16 h_16 = some (e_16, q_16) := hf
    unfold bX12_orders_16 at hf
    show zG p l e { frames := 1, cells := 0, slots := 0, locals := 24 } s m args below meth c (MQ below (zQ D cA base h hE none) args s 0 0 (zA base)) 9 D cA base h 16 [(0, .ref (base + r0)), (4, .int x4_16), (5, .int x5_16)] [] h_16
    refine g_iload X 2 dX12_orders_16 rfl ?_
    refine g_aload_n X 0 dX12_orders_18 rfl ?_
    obtain ⟨r_5, hr_5, hf⟩ := zbd hf
    refine g_get X zf12 hk1 3 (by decide) w_f_RX12_329 rfl (zfv_r hr_5 rfl) dX12_orders_19 ?_
    obtain ⟨hk6, hf⟩ := zite hf
    refine g_getN X zf11 hk6 4 (by decide) w_fn_RX12_257 rfl rfl dX12_orders_22 ?_
    refine g_icmp_ge X 128 dX12_orders_25 (by decide) (fun hq => ?_) (fun hq => ?_)
    · have hf := zpos hq hf
      cases hf
      have hc1 := hc1 (by decide)
      exact g_sub [] rfl hc1
    · have hf := zneg hq hf
      refine g_aload_n X 0 dX12_orders_28 rfl ?_
      obtain ⟨r_7, hr_7, hf⟩ := zbd hf
      refine g_get X zf12 hk1 3 (by decide) w_f_RX12_329 rfl (zfv_r hr_7 rfl) dX12_orders_29 ?_
      obtain ⟨hk8, hf⟩ := zite hf
      refine g_getN X zf11 hk8 4 (by decide) w_fn_RX12_257 rfl rfl dX12_orders_32 ?_
      refine g_iconst X (v := 1) dX12_orders_35 (by decide) ?_
      refine g_isub X dX12_orders_36 ?_
      refine g_iload X 2 dX12_orders_37 rfl ?_
      refine g_isub X dX12_orders_39 ?_
      refine g_aload_n X 0 dX12_orders_40 rfl ?_
      obtain ⟨r_9, hr_9, hf⟩ := zbd hf
      refine g_get X zf12 hk1 3 (by decide) w_f_RX12_329 rfl (zfv_r hr_9 rfl) dX12_orders_41 ?_
      obtain ⟨hk10, hf⟩ := zite hf
      refine g_getN X zf11 hk10 4 (by decide) w_fn_RX12_257 rfl rfl dX12_orders_44 ?_
      refine g_iconst X (v := 1) dX12_orders_47 (by decide) ?_
      refine g_isub X dX12_orders_48 ?_
      refine g_iload X 2 dX12_orders_49 rfl ?_
      refine g_isub X dX12_orders_51 ?_
      obtain ⟨v12, h11, hch11, hf⟩ := zc2_e hf
      refine g_callS X 2 (sX12_rowsOf hch11) ysX12_rowsOf w_ml_RX12_99 w_static_X12_rowsOf w_ini_RX12 w_code_X12_rowsOf (by decide) rfl (st := []) rfl rfl (Nat.le_of_ble_eq_true rfl) dX12_orders_52 ?_
      refine g_l2i X dX12_orders_55 ?_
      refine g_topi (fun y13 ey13 => ?_)
      have hf := zlet_n ey13 hf
      refine g_istore X [(6, .int y13), (0, .ref (base + r0)), (4, .int x4_16), (5, .int x5_16)] dX12_orders_56 (by decide) rfl ?_
      refine g_iload X 3 dX12_orders_58 rfl ?_
      refine g_iload X 2 dX12_orders_60 rfl ?_
      refine g_iload X 0 dX12_orders_62 rfl ?_
      obtain ⟨hn14, hf⟩ := zite hf
      refine g_idiv X hn14 dX12_orders_64 ?_
      refine g_iadd X dX12_orders_65 ?_
      refine g_topi (fun y15 ey15 => ?_)
      have hf := zlet_n ey15 hf
      refine g_istore X [(7, .int y15), (6, .int y13), (0, .ref (base + r0)), (4, .int x4_16), (5, .int x5_16)] dX12_orders_66 (by decide) rfl ?_
      refine g_iload X 3 dX12_orders_68 rfl ?_
      refine g_iload X 1 dX12_orders_70 rfl ?_
      obtain ⟨hn16, hf⟩ := zite hf
      refine g_irem X hn16 dX12_orders_72 ?_
      refine g_topi (fun y17 ey17 => ?_)
      have hf := zlet_n ey17 hf
      refine g_istore X [(4, .int y17), (7, .int y15), (6, .int y13), (0, .ref (base + r0)), (5, .int x5_16)] dX12_orders_73 (by decide) rfl ?_
      refine g_aload_n X 3 dX12_orders_75 rfl ?_
      obtain ⟨r_18, hr_18, hf⟩ := zbd hf
      refine g_get X zf12 hk1 19 (by decide) w_f_RX12_24 rfl (zfv_r hr_18 rfl) dX12_orders_76 ?_
      refine g_iload X 1 dX12_orders_79 rfl ?_
      obtain ⟨hk19, hf⟩ := zite hf
      obtain ⟨hi20, hf⟩ := zite hf
      refine g_iald X hk19 hi20 dX12_orders_81 ?_
      refine g_topi (fun y21 ey21 => ?_)
      have hf := zlet_n ey21 hf
      refine g_istore X [(8, .int y21), (4, .int y17), (7, .int y15), (6, .int y13), (0, .ref (base + r0)), (5, .int x5_16)] dX12_orders_82 (by decide) rfl ?_
      refine g_sub [4, 1, 5, 2, 0] rfl ?_
      obtain ⟨qq, hlp, hf⟩ := zbd hf
      refine lp_snd (body := (fun q : Int32 × Zh => bX12_orders_84 h r0 x5_16 q.1 q.2)) (P := (fun q : Int32 × Zh => zG p l e { frames := 1, cells := 0, slots := 0, locals := 24 } s m args below meth c (MQ below (zQ D cA base h hE none) args s 0 0 (zA base)) 9 D cA base h 84 [(0, .ref (base + r0)), (4, .int y17), (5, .int x5_16), (7, .int q.1), (8, .int y21)] [] q.2)) (E := (fun (en : Nat) (q : Int32 × Zh) => zG p l e { frames := 1, cells := 0, slots := 0, locals := 24 } s m args below meth c (MQ below (zQ D cA base h hE none) args s 0 0 (zA base)) 9 D cA base h 113 [(0, .ref (base + r0)), (4, .int y17), (5, .int x5_16), (8, .int y21)] [] q.2)) ?_ zB (y15, h11) qq.1 qq.2 hlp ?_
      · intro q e_84 q_84 hf hc0 hc1
        obtain ⟨x7_84, h_84⟩ := q
        have hf : bX12_orders_84 h r0 x5_16 x7_84 h_84 = some (e_84, q_84) := hf
        unfold bX12_orders_84 at hf
        show zG p l e { frames := 1, cells := 0, slots := 0, locals := 24 } s m args below meth c (MQ below (zQ D cA base h hE none) args s 0 0 (zA base)) 9 D cA base h 84 [(0, .ref (base + r0)), (4, .int y17), (5, .int x5_16), (7, .int x7_84), (8, .int y21)] [] h_84
        refine g_iload X 3 dX12_orders_84 rfl ?_
        refine g_iload X 2 dX12_orders_86 rfl ?_
        refine g_icmp_le X 113 dX12_orders_88 (by decide) (fun hq => ?_) (fun hq => ?_)
        · have hf := zpos hq hf
          cases hf
          have hc1 := hc1 (by decide)
          exact g_sub [0, 1, 2, 4] rfl hc1
        · have hf := zneg hq hf
          refine g_aload_n X 0 dX12_orders_91 rfl ?_
          obtain ⟨r_22, hr_22, hf⟩ := zbd hf
          refine g_get X zf12 hk1 19 (by decide) w_f_RX12_24 rfl (zfv_r hr_22 rfl) dX12_orders_92 ?_
          refine g_iload X 3 dX12_orders_95 rfl ?_
          refine g_aload_n X 0 dX12_orders_97 rfl ?_
          obtain ⟨r_23, hr_23, hf⟩ := zbd hf
          refine g_get X zf12 hk1 19 (by decide) w_f_RX12_24 rfl (zfv_r hr_23 rfl) dX12_orders_98 ?_
          refine g_iload X 3 dX12_orders_101 rfl ?_
          refine g_iconst X (v := 1) dX12_orders_103 (by decide) ?_
          refine g_isub X dX12_orders_104 ?_
          obtain ⟨hk24, hf⟩ := zite hf
          obtain ⟨hi25, hf⟩ := zite hf
          refine g_iald X hk24 hi25 dX12_orders_105 ?_
          obtain ⟨hk26, hf⟩ := zite hf
          obtain ⟨hi27, hf⟩ := zite hf
          refine g_iast X hk26 hi27 dX12_orders_106 ?_
          refine g_hp (fun h28 eh28 => ?_)
          have hf := zlet_n eh28 hf
          obtain ⟨y29, ey29⟩ : ∃ y : Int32, y = x7_84 + (-1 : Int32) := ⟨_, rfl⟩
          have hf := zlet_n ey29 hf
          refine g_iinc X (j := 3) [(7, .int y29), (0, .ref (base + r0)), (4, .int y17), (5, .int x5_16), (8, .int y21)] dX12_orders_107 rfl (by rw [ey29]; rfl) (by decide) rfl ?_
          refine g_goto X 84 dX12_orders_110 (by decide) ?_
          cases hf
          exact g_sub [1, 2, 3, 0, 4] rfl (hc0 rfl)
      · obtain ⟨ee, x7_k84, h_k84⟩ := qq
        have hf : kX12_orders_84 h r0 y17 x5_16 y21 ee x7_k84 h_k84 = some (e_16, q_16) := hf
        unfold kX12_orders_84 at hf
        show zG p l e { frames := 1, cells := 0, slots := 0, locals := 24 } s m args below meth c (MQ below (zQ D cA base h hE none) args s 0 0 (zA base)) 9 D cA base h 113 [(0, .ref (base + r0)), (4, .int y17), (5, .int x5_16), (8, .int y21)] [] h_k84
        refine g_aload_n X 0 dX12_orders_113 rfl ?_
        obtain ⟨r_30, hr_30, hf⟩ := zbd hf
        refine g_get X zf12 hk1 19 (by decide) w_f_RX12_24 rfl (zfv_r hr_30 rfl) dX12_orders_114 ?_
        refine g_iload X 2 dX12_orders_117 rfl ?_
        refine g_iload X 3 dX12_orders_119 rfl ?_
        obtain ⟨hk31, hf⟩ := zite hf
        obtain ⟨hi32, hf⟩ := zite hf
        refine g_iast X hk31 hi32 dX12_orders_121 ?_
        refine g_hp (fun h33 eh33 => ?_)
        have hf := zlet_n eh33 hf
        obtain ⟨y34, ey34⟩ : ∃ y : Int32, y = x5_16 + (1 : Int32) := ⟨_, rfl⟩
        have hf := zlet_n ey34 hf
        refine g_iinc X (j := 2) [(5, .int y34), (0, .ref (base + r0)), (4, .int y17), (8, .int y21)] dX12_orders_122 rfl (by rw [ey34]; rfl) (by decide) rfl ?_
        refine g_goto X 16 dX12_orders_125 (by decide) ?_
        cases hf
        exact g_sub [1, 2, 0] rfl (hc0 rfl)
  · obtain ⟨ee, x4_k16, x5_k16, h_k16⟩ := qq
    have hf : kX12_orders_16 h ee x4_k16 x5_k16 h_k16 = some hE := hf
    unfold kX12_orders_16 at hf
    show zG p l e { frames := 1, cells := 0, slots := 0, locals := 24 } s m args below meth c (MQ below (zQ D cA base h hE none) args s 0 0 (zA base)) 9 D cA base h 128 [] [] h_k16
    cases hf
    exact g_vret X hr dX12_orders_128

set_option maxHeartbeats 4000000 in
set_option maxRecDepth 100000 in
theorem sX12_laysWords {l : Launch} {D : va_G} {cA : Nat → ClassId} {base : Nat} {sA : Nat → Nat} {r0 : Nat} {x1 : Int32} {x2 : Int32} {h hE : Zh} {rE : Int32} (hf : fX12_laysWords r0 x1 x2 h = some (rE, hE)) : zC l yX12_laysWords cX12_laysWords 13 (some .int) 3 74 D cA base sA [.ref (base + r0), .int x1, .int x2] h (some (.int rE)) hE := by
  refine g_entry RX12 (by decide) rfl (Nat.le_of_ble_eq_true rfl) ?_
  intro p e s m args below meth c X hr
  unfold fX12_laysWords at hf
  have hf := zlet_n (x := h) rfl hf
  show zG p l e { frames := 3, cells := 0, slots := 0, locals := 74 } s m args below meth c (MQ below (zQ D cA base h hE (some (.int rE))) args s 0 0 (zA base)) 13 D cA base h 0 [(0, .ref (base + r0)), (1, .int x1), (2, .int x2)] [] h
  refine g_aload_n X 0 dX12_laysWords_0 rfl ?_
  refine g_iload_n X 2 dX12_laysWords_1 rfl ?_
  obtain ⟨hk1, hf⟩ := zite hf
  obtain ⟨h2, hch2, hf⟩ := zbd hf
  refine g_callV X 1 (sX12_sorts hch2) zf12 hk1 ydX12_sorts w_ml_RX12_406 w_instanceMethod_X12_sorts w_sel_X12_sorts w_ini_RX12 w_code_X12_sorts (by decide) rfl (st := []) rfl rfl (Nat.le_of_ble_eq_true rfl) dX12_laysWords_2 ?_
  refine g_aload_n X 0 dX12_laysWords_5 rfl ?_
  refine g_iload_n X 1 dX12_laysWords_6 rfl ?_
  refine g_iconst X (v := 5) dX12_laysWords_7 (by decide) ?_
  obtain ⟨hn3, hf⟩ := zite hf
  refine g_idiv X hn3 dX12_laysWords_8 ?_
  obtain ⟨v5, h4, hch4, hf⟩ := zc2_e hf
  refine g_callV X 1 (sX12_keepsAt hch4) zf12 hk1 ydX12_keepsAt w_ml_RX12_409 w_instanceMethod_X12_keepsAt w_sel_X12_keepsAt w_ini_RX12 w_code_X12_keepsAt (by decide) rfl (st := []) rfl rfl (Nat.le_of_ble_eq_true rfl) dX12_laysWords_9 ?_
  refine g_istore_n X [(3, .int v5), (0, .ref (base + r0)), (1, .int x1), (2, .int x2)] dX12_laysWords_12 (by decide) rfl ?_
  refine g_iload_n X 0 dX12_laysWords_13 rfl ?_
  refine g_iconst X (v := 1) dX12_laysWords_14 (by decide) ?_
  refine g_iadd X dX12_laysWords_15 ?_
  refine g_aload_n X 1 dX12_laysWords_16 rfl ?_
  obtain ⟨r_6, hr_6, hf⟩ := zbd hf
  refine g_get X zf12 hk1 3 (by decide) w_f_RX12_329 rfl (zfv_r hr_6 rfl) dX12_laysWords_17 ?_
  obtain ⟨hk7, hf⟩ := zite hf
  refine g_getN X zf11 hk7 2 (by decide) w_fn_RX12_232 rfl rfl dX12_laysWords_20 ?_
  obtain ⟨hn8, hf⟩ := zite hf
  refine g_irem X hn8 dX12_laysWords_23 ?_
  refine g_topi (fun y9 ey9 => ?_)
  have hf := zlet_n ey9 hf
  refine g_istore X [(4, .int y9), (3, .int v5), (0, .ref (base + r0)), (1, .int x1), (2, .int x2)] dX12_laysWords_24 (by decide) rfl ?_
  refine g_aload_n X 2 dX12_laysWords_26 rfl ?_
  obtain ⟨r_10, hr_10, hf⟩ := zbd hf
  refine g_get X zf12 hk1 20 (by decide) w_f_RX12_27 rfl (zfv_r hr_10 rfl) dX12_laysWords_27 ?_
  refine g_iload_n X 1 dX12_laysWords_30 rfl ?_
  obtain ⟨hk11, hf⟩ := zite hf
  obtain ⟨hi12, hf⟩ := zite hf
  refine g_iald X hk11 hi12 dX12_laysWords_31 ?_
  refine g_topi (fun y13 ey13 => ?_)
  have hf := zlet_n ey13 hf
  refine g_istore X [(5, .int y13), (4, .int y9), (3, .int v5), (0, .ref (base + r0)), (1, .int x1), (2, .int x2)] dX12_laysWords_32 (by decide) rfl ?_
  refine g_aload_n X 3 dX12_laysWords_34 rfl ?_
  obtain ⟨r_14, hr_14, hf⟩ := zbd hf
  refine g_get X zf12 hk1 3 (by decide) w_f_RX12_329 rfl (zfv_r hr_14 rfl) dX12_laysWords_35 ?_
  obtain ⟨hk15, hf⟩ := zite hf
  refine g_getN X zf11 hk15 3 (by decide) w_fn_RX12_255 rfl rfl dX12_laysWords_38 ?_
  refine g_iconst X (v := 2) dX12_laysWords_41 (by decide) ?_
  have hJ57 : ∀ (x5_57 : Int32) (t0_57 : Int32) (h_57 : Zh), jX12_laysWords_57 h r0 x1 x2 x5_57 t0_57 h_57 = some (rE, hE) → zG p l e { frames := 3, cells := 0, slots := 0, locals := 74 } s m args below meth c (MQ below (zQ D cA base h hE (some (.int rE))) args s 0 0 (zA base)) 13 D cA base h 57 [(0, .ref (base + r0)), (1, .int x1), (2, .int x2), (5, .int x5_57)] [.int t0_57] h_57 := by
    intro x5_57 t0_57 h_57 hf
    unfold jX12_laysWords_57 at hf
    refine g_istore X [(6, .int t0_57), (0, .ref (base + r0)), (1, .int x1), (2, .int x2), (5, .int x5_57)] dX12_laysWords_57 (by decide) rfl ?_
    refine g_iconst X (v := 1) dX12_laysWords_59 (by decide) ?_
    refine g_iload X 4 dX12_laysWords_60 rfl ?_
    refine g_ishl X dX12_laysWords_62 ?_
    refine g_iconst X (v := 1) dX12_laysWords_63 (by decide) ?_
    refine g_iload X 0 dX12_laysWords_64 rfl ?_
    refine g_ishl X dX12_laysWords_66 ?_
    refine g_ior X dX12_laysWords_67 ?_
    refine g_topi (fun y16 ey16 => ?_)
    have hf := zlet_n ey16 hf
    refine g_istore X [(7, .int y16), (6, .int t0_57), (0, .ref (base + r0)), (1, .int x1), (2, .int x2), (5, .int x5_57)] dX12_laysWords_68 (by decide) rfl ?_
    refine g_iload X 5 dX12_laysWords_70 rfl ?_
    refine g_iload X 1 dX12_laysWords_72 rfl ?_
    have hJ84 : ∀ (x5_84 : Int32) (x6_84 : Int32) (x7_84 : Int32) (t0_84 : Int32) (h_84 : Zh), jX12_laysWords_84 h r0 x1 x2 x5_84 x6_84 x7_84 t0_84 h_84 = some (rE, hE) → zG p l e { frames := 3, cells := 0, slots := 0, locals := 74 } s m args below meth c (MQ below (zQ D cA base h hE (some (.int rE))) args s 0 0 (zA base)) 13 D cA base h 84 [(0, .ref (base + r0)), (1, .int x1), (2, .int x2), (5, .int x5_84), (6, .int x6_84), (7, .int x7_84)] [.int t0_84] h_84 := by
      intro x5_84 x6_84 x7_84 t0_84 h_84 hf
      unfold jX12_laysWords_84 at hf
      refine g_istore X [(8, .int t0_84), (0, .ref (base + r0)), (1, .int x1), (2, .int x2), (5, .int x5_84), (6, .int x6_84), (7, .int x7_84)] dX12_laysWords_84 (by decide) rfl ?_
      refine g_aload_n X 1 dX12_laysWords_86 rfl ?_
      refine g_iload_n X 2 dX12_laysWords_87 rfl ?_
      refine g_iconst X (v := 5) dX12_laysWords_88 (by decide) ?_
      obtain ⟨hn17, hf⟩ := zite hf
      refine g_irem X hn17 dX12_laysWords_89 ?_
      refine g_iload X 0 dX12_laysWords_90 rfl ?_
      refine g_iload_n X 3 dX12_laysWords_92 rfl ?_
      refine g_iload X 6 dX12_laysWords_93 rfl ?_
      obtain ⟨v19, h18, hch18, hf⟩ := zc2_e hf
      refine g_callV X 4 (sX12_tells hch18) zf12 hk1 ydX12_tells w_ml_RX12_412 w_instanceMethod_X12_tells w_sel_X12_tells w_ini_RX12 w_code_X12_tells (by decide) rfl (st := []) rfl rfl (Nat.le_of_ble_eq_true rfl) dX12_laysWords_95 ?_
      refine g_istore X [(9, .int v19), (8, .int t0_84), (0, .ref (base + r0)), (1, .int x1), (2, .int x2), (5, .int x5_84), (6, .int x6_84), (7, .int x7_84)] dX12_laysWords_98 (by decide) rfl ?_
      refine g_aload_n X 2 dX12_laysWords_100 rfl ?_
      obtain ⟨r_20, hr_20, hf⟩ := zbd hf
      refine g_get X zf12 hk1 3 (by decide) w_f_RX12_329 rfl (zfv_r hr_20 rfl) dX12_laysWords_101 ?_
      obtain ⟨hk21, hf⟩ := zite hf
      refine g_getN X zf11 hk21 3 (by decide) w_fn_RX12_255 rfl rfl dX12_laysWords_104 ?_
      refine g_iconst X (v := 2) dX12_laysWords_107 (by decide) ?_
      have hJ142 : ∀ (x7_142 : Int32) (x9_142 : Int32) (h_142 : Zh), jX12_laysWords_142 h r0 x2 x7_142 x9_142 h_142 = some (rE, hE) → zG p l e { frames := 3, cells := 0, slots := 0, locals := 74 } s m args below meth c (MQ below (zQ D cA base h hE (some (.int rE))) args s 0 0 (zA base)) 13 D cA base h 142 [(0, .ref (base + r0)), (2, .int x2), (7, .int x7_142), (9, .int x9_142)] [] h_142 := by
        intro x7_142 x9_142 h_142 hf
        unfold jX12_laysWords_142 at hf
        refine g_iconst X (v := 0) dX12_laysWords_142 (by decide) ?_
        refine g_istore X [(10, .int ((0 : Int32))), (0, .ref (base + r0)), (2, .int x2), (7, .int x7_142), (9, .int x9_142)] dX12_laysWords_143 (by decide) rfl ?_
        refine g_iconst X (v := 0) dX12_laysWords_145 (by decide) ?_
        refine g_istore X [(11, .int ((0 : Int32))), (10, .int ((0 : Int32))), (0, .ref (base + r0)), (2, .int x2), (7, .int x7_142), (9, .int x9_142)] dX12_laysWords_146 (by decide) rfl ?_
        refine g_sub [2, 3, 4, 5, 1, 0] rfl ?_
        obtain ⟨qq, hlp, hf⟩ := zbd hf
        refine lp_snd (body := (fun q : Int32 × Int32 × Zh => bX12_laysWords_148 h r0 x2 x7_142 q.1 q.2.1 q.2.2)) (P := (fun q : Int32 × Int32 × Zh => zG p l e { frames := 3, cells := 0, slots := 0, locals := 74 } s m args below meth c (MQ below (zQ D cA base h hE (some (.int rE))) args s 0 0 (zA base)) 13 D cA base h 148 [(0, .ref (base + r0)), (2, .int x2), (7, .int x7_142), (9, .int x9_142), (10, .int q.1), (11, .int q.2.1)] [] q.2.2)) (E := (fun (en : Nat) (q : Int32 × Int32 × Zh) => zG p l e { frames := 3, cells := 0, slots := 0, locals := 74 } s m args below meth c (MQ below (zQ D cA base h hE (some (.int rE))) args s 0 0 (zA base)) 13 D cA base h 221 [(0, .ref (base + r0)), (9, .int x9_142)] [] q.2.2)) ?_ zB ((0 : Int32), ((0 : Int32), h_142)) qq.1 qq.2 hlp ?_
        · intro q e_148 q_148 hf hc0 hc1
          obtain ⟨x10_148, x11_148, h_148⟩ := q
          have hf : bX12_laysWords_148 h r0 x2 x7_142 x10_148 x11_148 h_148 = some (e_148, q_148) := hf
          unfold bX12_laysWords_148 at hf
          show zG p l e { frames := 3, cells := 0, slots := 0, locals := 74 } s m args below meth c (MQ below (zQ D cA base h hE (some (.int rE))) args s 0 0 (zA base)) 13 D cA base h 148 [(0, .ref (base + r0)), (2, .int x2), (7, .int x7_142), (9, .int x9_142), (10, .int x10_148), (11, .int x11_148)] [] h_148
          refine g_iload X 5 dX12_laysWords_148 rfl ?_
          refine g_aload_n X 0 dX12_laysWords_150 rfl ?_
          obtain ⟨r_22, hr_22, hf⟩ := zbd hf
          refine g_get X zf12 hk1 3 (by decide) w_f_RX12_329 rfl (zfv_r hr_22 rfl) dX12_laysWords_151 ?_
          obtain ⟨hk23, hf⟩ := zite hf
          refine g_getN X zf11 hk23 2 (by decide) w_fn_RX12_232 rfl rfl dX12_laysWords_154 ?_
          refine g_icmp_ge X 221 dX12_laysWords_157 (by decide) (fun hq => ?_) (fun hq => ?_)
          · have hf := zpos hq hf
            cases hf
            have hc1 := hc1 (by decide)
            exact g_sub [0, 3] rfl hc1
          · have hf := zneg hq hf
            refine g_aload_n X 0 dX12_laysWords_160 rfl ?_
            obtain ⟨r_24, hr_24, hf⟩ := zbd hf
            refine g_get X zf12 hk1 3 (by decide) w_f_RX12_329 rfl (zfv_r hr_24 rfl) dX12_laysWords_161 ?_
            obtain ⟨hk25, hf⟩ := zite hf
            refine g_getN X zf11 hk25 7 (by decide) w_fn_RX12_228 rfl rfl dX12_laysWords_164 ?_
            have hJ187 : ∀ (x10_187 : Int32) (x11_187 : Int32) (t0_187 : Int32) (h_187 : Zh), jX12_laysWords_187 h r0 x2 x7_142 x10_187 x11_187 t0_187 h_187 = some (e_148, q_148) → zG p l e { frames := 3, cells := 0, slots := 0, locals := 74 } s m args below meth c (MQ below (zQ D cA base h hE (some (.int rE))) args s 0 0 (zA base)) 13 D cA base h 187 [(0, .ref (base + r0)), (2, .int x2), (7, .int x7_142), (9, .int x9_142), (10, .int x10_187), (11, .int x11_187)] [.int t0_187] h_187 := by
              intro x10_187 x11_187 t0_187 h_187 hf
              unfold jX12_laysWords_187 at hf
              refine g_istore X [(12, .int t0_187), (0, .ref (base + r0)), (2, .int x2), (7, .int x7_142), (9, .int x9_142), (10, .int x10_187), (11, .int x11_187)] dX12_laysWords_187 (by decide) rfl ?_
              refine g_iload X 3 dX12_laysWords_189 rfl ?_
              refine g_iload X 0 dX12_laysWords_191 rfl ?_
              refine g_ishr X dX12_laysWords_193 ?_
              refine g_iconst X (v := 1) dX12_laysWords_194 (by decide) ?_
              refine g_iand X dX12_laysWords_195 ?_
              refine g_iconst X (v := 1) dX12_laysWords_196 (by decide) ?_
              refine g_icmp_ne X 203 dX12_laysWords_197 (by decide) (fun hq => ?_) (fun hq => ?_)
              · have hf := zneg hq hf
                refine g_aload_n X 1 dX12_laysWords_203 rfl ?_
                obtain ⟨r_26, hr_26, hf⟩ := zbd hf
                refine g_get X zf12 hk1 19 (by decide) w_f_RX12_24 rfl (zfv_r hr_26 rfl) dX12_laysWords_204 ?_
                refine g_iload X 5 dX12_laysWords_207 rfl ?_
                refine g_iload X 0 dX12_laysWords_209 rfl ?_
                obtain ⟨hk27, hf⟩ := zite hf
                obtain ⟨hi28, hf⟩ := zite hf
                refine g_iast X hk27 hi28 dX12_laysWords_211 ?_
                refine g_hp (fun h29 eh29 => ?_)
                have hf := zlet_n eh29 hf
                obtain ⟨y30, ey30⟩ : ∃ y : Int32, y = x10_187 + (1 : Int32) := ⟨_, rfl⟩
                have hf := zlet_n ey30 hf
                refine g_iinc X (j := 5) [(10, .int y30), (12, .int t0_187), (0, .ref (base + r0)), (2, .int x2), (7, .int x7_142), (9, .int x9_142), (11, .int x11_187)] dX12_laysWords_212 rfl (by rw [ey30]; rfl) (by decide) rfl ?_
                obtain ⟨y31, ey31⟩ : ∃ y : Int32, y = x11_187 + (1 : Int32) := ⟨_, rfl⟩
                have hf := zlet_n ey31 hf
                refine g_iinc X (j := 6) [(11, .int y31), (10, .int y30), (12, .int t0_187), (0, .ref (base + r0)), (2, .int x2), (7, .int x7_142), (9, .int x9_142)] dX12_laysWords_215 rfl (by rw [ey31]; rfl) (by decide) rfl ?_
                refine g_goto X 148 dX12_laysWords_218 (by decide) ?_
                cases hf
                exact g_sub [3, 4, 5, 6, 1, 0] rfl (hc0 rfl)
              · have hf := zpos hq hf
                refine g_goto X 215 dX12_laysWords_200 (by decide) ?_
                obtain ⟨y32, ey32⟩ : ∃ y : Int32, y = x11_187 + (1 : Int32) := ⟨_, rfl⟩
                have hf := zlet_n ey32 hf
                refine g_iinc X (j := 6) [(11, .int y32), (12, .int t0_187), (0, .ref (base + r0)), (2, .int x2), (7, .int x7_142), (9, .int x9_142), (10, .int x10_187)] dX12_laysWords_215 rfl (by rw [ey32]; rfl) (by decide) rfl ?_
                refine g_goto X 148 dX12_laysWords_218 (by decide) ?_
                cases hf
                exact g_sub [2, 3, 4, 5, 6, 0] rfl (hc0 rfl)
            refine g_if_eq X 180 dX12_laysWords_167 (by decide) (fun hq => ?_) (fun hq => ?_)
            · have hf := zpos hq hf
              refine g_aload_n X 0 dX12_laysWords_180 rfl ?_
              obtain ⟨r_33, hr_33, hf⟩ := zbd hf
              refine g_get X zf12 hk1 20 (by decide) w_f_RX12_27 rfl (zfv_r hr_33 rfl) dX12_laysWords_181 ?_
              refine g_iload X 5 dX12_laysWords_184 rfl ?_
              obtain ⟨hk34, hf⟩ := zite hf
              obtain ⟨hi35, hf⟩ := zite hf
              refine g_iald X hk34 hi35 dX12_laysWords_186 ?_
              refine g_sub [0, 1, 2, 3, 4, 5] rfl ?_
              exact hJ187 _ _ _ _ hf
            · have hf := zneg hq hf
              refine g_aload_n X 0 dX12_laysWords_170 rfl ?_
              refine g_iload_n X 1 dX12_laysWords_171 rfl ?_
              refine g_iload X 5 dX12_laysWords_172 rfl ?_
              obtain ⟨v37, h36, hch36, hf⟩ := zc2_e hf
              refine g_callV X 2 (sX12_cardOf hch36) zf12 hk1 ydX12_cardOf w_ml_RX12_366 w_instanceMethod_X12_cardOf w_sel_X12_cardOf w_ini_RX12 w_code_X12_cardOf (by decide) rfl (st := []) rfl rfl (Nat.le_of_ble_eq_true rfl) dX12_laysWords_174 ?_
              refine g_goto X 187 dX12_laysWords_177 (by decide) ?_
              refine g_sub [0, 1, 2, 3, 4, 5] rfl ?_
              exact hJ187 _ _ _ _ hf
        · obtain ⟨ee, x10_k148, x11_k148, h_k148⟩ := qq
          have hf : kX12_laysWords_148 h r0 x9_142 ee x10_k148 x11_k148 h_k148 = some (rE, hE) := hf
          unfold kX12_laysWords_148 at hf
          show zG p l e { frames := 3, cells := 0, slots := 0, locals := 74 } s m args below meth c (MQ below (zQ D cA base h hE (some (.int rE))) args s 0 0 (zA base)) 13 D cA base h 221 [(0, .ref (base + r0)), (9, .int x9_142)] [] h_k148
          refine g_aload_n X 0 dX12_laysWords_221 rfl ?_
          obtain ⟨v39, h38, hch38, hf⟩ := zc2_e hf
          refine g_callV X 0 (sX12_isOneOrder hch38) zf12 hk1 ydX12_isOneOrder w_ml_RX12_388 w_instanceMethod_X12_isOneOrder w_sel_X12_isOneOrder w_ini_RX12 w_code_X12_isOneOrder (by decide) rfl (st := []) rfl rfl (Nat.le_of_ble_eq_true rfl) dX12_laysWords_222 ?_
          refine g_if_eq X 257 dX12_laysWords_225 (by decide) (fun hq => ?_) (fun hq => ?_)
          · have hf := zpos hq hf
            refine g_aload_n X 0 dX12_laysWords_257 rfl ?_
            obtain ⟨r_40, hr_40, hf⟩ := zbd hf
            refine g_get X zf12 hk1 3 (by decide) w_f_RX12_329 rfl (zfv_r hr_40 rfl) dX12_laysWords_258 ?_
            obtain ⟨hk41, hf⟩ := zite hf
            refine g_getN X zf11 hk41 4 (by decide) w_fn_RX12_257 rfl rfl dX12_laysWords_261 ?_
            refine g_aload_n X 0 dX12_laysWords_264 rfl ?_
            obtain ⟨r_42, hr_42, hf⟩ := zbd hf
            refine g_get X zf12 hk1 3 (by decide) w_f_RX12_329 rfl (zfv_r hr_42 rfl) dX12_laysWords_265 ?_
            obtain ⟨hk43, hf⟩ := zite hf
            refine g_getN X zf11 hk43 4 (by decide) w_fn_RX12_257 rfl rfl dX12_laysWords_268 ?_
            obtain ⟨v45, h44, hch44, hf⟩ := zc2_e hf
            refine g_callS X 2 (sX12_rowsOf hch44) ysX12_rowsOf w_ml_RX12_99 w_static_X12_rowsOf w_ini_RX12 w_code_X12_rowsOf (by decide) rfl (st := []) rfl rfl (Nat.le_of_ble_eq_true rfl) dX12_laysWords_271 ?_
            refine g_l2i X dX12_laysWords_274 ?_
            refine g_topi (fun y46 ey46 => ?_)
            have hf := zlet_n ey46 hf
            refine g_istore X [(11, .int y46), (0, .ref (base + r0)), (9, .int x9_142)] dX12_laysWords_275 (by decide) rfl ?_
            refine g_aload_n X 1 dX12_laysWords_277 rfl ?_
            refine g_iload X 2 dX12_laysWords_278 rfl ?_
            refine g_iload X 0 dX12_laysWords_280 rfl ?_
            obtain ⟨hn47, hf⟩ := zite hf
            refine g_irem X hn47 dX12_laysWords_282 ?_
            refine g_iconst X (v := 0) dX12_laysWords_283 (by decide) ?_
            obtain ⟨h48, hch48, hf⟩ := zbd hf
            refine g_callV X 2 (sX12_orders hch48) zf12 hk1 ydX12_orders w_ml_RX12_415 w_instanceMethod_X12_orders w_sel_X12_orders w_ini_RX12 w_code_X12_orders (by decide) rfl (st := []) rfl rfl (Nat.le_of_ble_eq_true rfl) dX12_laysWords_284 ?_
            refine g_aload_n X 1 dX12_laysWords_287 rfl ?_
            refine g_aload_n X 1 dX12_laysWords_288 rfl ?_
            obtain ⟨r_49, hr_49, hf⟩ := zbd hf
            refine g_get X zf12 hk1 19 (by decide) w_f_RX12_24 rfl (zfv_r hr_49 rfl) dX12_laysWords_289 ?_
            refine g_iconst X (v := 0) dX12_laysWords_292 (by decide) ?_
            obtain ⟨v51, h50, hch50, hf⟩ := zc2_e hf
            refine g_callV X 2 (sX12_rowNumber hch50) zf12 hk1 ydX12_rowNumber w_ml_RX12_351 w_instanceMethod_X12_rowNumber w_sel_X12_rowNumber w_ini_RX12 w_code_X12_rowNumber (by decide) rfl (st := []) rfl rfl (Nat.le_of_ble_eq_true rfl) dX12_laysWords_293 ?_
            refine g_aload_n X 1 dX12_laysWords_296 rfl ?_
            obtain ⟨r_52, hr_52, hf⟩ := zbd hf
            refine g_get X zf12 hk1 3 (by decide) w_f_RX12_329 rfl (zfv_r hr_52 rfl) dX12_laysWords_297 ?_
            obtain ⟨hk53, hf⟩ := zite hf
            obtain ⟨v55, h54, hch54, hf⟩ := zc2_e hf
            refine g_callV X 0 (sX11_tilts hch54) zf11 hk53 ydX11_tilts w_ml_RX12_354 w_instanceMethod_X11_tilts w_sel_X11_tilts w_ini_RX11 w_code_X11_tilts (by decide) rfl (st := [.int v51]) rfl rfl (Nat.le_of_ble_eq_true rfl) dX12_laysWords_300 ?_
            refine g_imul X dX12_laysWords_303 ?_
            refine g_iload X 2 dX12_laysWords_304 rfl ?_
            refine g_iload X 0 dX12_laysWords_306 rfl ?_
            obtain ⟨hn56, hf⟩ := zite hf
            refine g_idiv X hn56 dX12_laysWords_308 ?_
            refine g_aload_n X 1 dX12_laysWords_309 rfl ?_
            obtain ⟨r_57, hr_57, hf⟩ := zbd hf
            refine g_get X zf12 hk1 3 (by decide) w_f_RX12_329 rfl (zfv_r hr_57 rfl) dX12_laysWords_310 ?_
            obtain ⟨hk58, hf⟩ := zite hf
            obtain ⟨v60, h59, hch59, hf⟩ := zc2_e hf
            refine g_callV X 0 (sX11_tilts hch59) zf11 hk58 ydX11_tilts w_ml_RX12_354 w_instanceMethod_X11_tilts w_sel_X11_tilts w_ini_RX11 w_code_X11_tilts (by decide) rfl (st := [.int (x9_142 / y46), .int (v51 * v55)]) rfl rfl (Nat.le_of_ble_eq_true rfl) dX12_laysWords_313 ?_
            obtain ⟨hn61, hf⟩ := zite hf
            refine g_irem X hn61 dX12_laysWords_316 ?_
            refine g_iadd X dX12_laysWords_317 ?_
            obtain ⟨rfl, rfl⟩ := zsm hf
            exact g_iret X hr dX12_laysWords_318
          · have hf := zneg hq hf
            refine g_aload_n X 0 dX12_laysWords_228 rfl ?_
            refine g_aload_n X 0 dX12_laysWords_229 rfl ?_
            obtain ⟨r_62, hr_62, hf⟩ := zbd hf
            refine g_get X zf12 hk1 19 (by decide) w_f_RX12_24 rfl (zfv_r hr_62 rfl) dX12_laysWords_230 ?_
            refine g_iconst X (v := 0) dX12_laysWords_233 (by decide) ?_
            obtain ⟨v64, h63, hch63, hf⟩ := zc2_e hf
            refine g_callV X 2 (sX12_rowNumber hch63) zf12 hk1 ydX12_rowNumber w_ml_RX12_351 w_instanceMethod_X12_rowNumber w_sel_X12_rowNumber w_ini_RX12 w_code_X12_rowNumber (by decide) rfl (st := []) rfl rfl (Nat.le_of_ble_eq_true rfl) dX12_laysWords_234 ?_
            refine g_aload_n X 0 dX12_laysWords_237 rfl ?_
            obtain ⟨r_65, hr_65, hf⟩ := zbd hf
            refine g_get X zf12 hk1 3 (by decide) w_f_RX12_329 rfl (zfv_r hr_65 rfl) dX12_laysWords_238 ?_
            obtain ⟨hk66, hf⟩ := zite hf
            obtain ⟨v68, h67, hch67, hf⟩ := zc2_e hf
            refine g_callV X 0 (sX11_tilts hch67) zf11 hk66 ydX11_tilts w_ml_RX12_354 w_instanceMethod_X11_tilts w_sel_X11_tilts w_ini_RX11 w_code_X11_tilts (by decide) rfl (st := [.int v64]) rfl rfl (Nat.le_of_ble_eq_true rfl) dX12_laysWords_241 ?_
            refine g_imul X dX12_laysWords_244 ?_
            refine g_iload X 1 dX12_laysWords_245 rfl ?_
            refine g_aload_n X 0 dX12_laysWords_247 rfl ?_
            obtain ⟨r_69, hr_69, hf⟩ := zbd hf
            refine g_get X zf12 hk1 3 (by decide) w_f_RX12_329 rfl (zfv_r hr_69 rfl) dX12_laysWords_248 ?_
            obtain ⟨hk70, hf⟩ := zite hf
            obtain ⟨v72, h71, hch71, hf⟩ := zc2_e hf
            refine g_callV X 0 (sX11_tilts hch71) zf11 hk70 ydX11_tilts w_ml_RX12_354 w_instanceMethod_X11_tilts w_sel_X11_tilts w_ini_RX11 w_code_X11_tilts (by decide) rfl (st := [.int x9_142, .int (v64 * v68)]) rfl rfl (Nat.le_of_ble_eq_true rfl) dX12_laysWords_251 ?_
            obtain ⟨hn73, hf⟩ := zite hf
            refine g_irem X hn73 dX12_laysWords_254 ?_
            refine g_iadd X dX12_laysWords_255 ?_
            obtain ⟨rfl, rfl⟩ := zsm hf
            exact g_iret X hr dX12_laysWords_256
      refine g_icmp_ne X 142 dX12_laysWords_108 (by decide) (fun hq => ?_) (fun hq => ?_)
      · have hf := zneg hq hf
        refine g_sub [2, 4, 7, 0] rfl ?_
        exact hJ142 _ _ _ hf
      · have hf := zpos hq hf
        refine g_iload X 0 dX12_laysWords_111 rfl ?_
        refine g_aload_n X 2 dX12_laysWords_113 rfl ?_
        obtain ⟨r_74, hr_74, hf⟩ := zbd hf
        refine g_get X zf12 hk1 3 (by decide) w_f_RX12_329 rfl (zfv_r hr_74 rfl) dX12_laysWords_114 ?_
        obtain ⟨hk75, hf⟩ := zite hf
        refine g_getN X zf11 hk75 0 (by decide) w_fn_RX12_194 rfl rfl dX12_laysWords_117 ?_
        refine g_imul X dX12_laysWords_120 ?_
        refine g_aload_n X 2 dX12_laysWords_121 rfl ?_
        refine g_iload_n X 3 dX12_laysWords_122 rfl ?_
        refine g_iconst X (v := 5) dX12_laysWords_123 (by decide) ?_
        obtain ⟨hn76, hf⟩ := zite hf
        refine g_irem X hn76 dX12_laysWords_124 ?_
        refine g_iload X 5 dX12_laysWords_125 rfl ?_
        refine g_iload X 6 dX12_laysWords_127 rfl ?_
        refine g_iadd X dX12_laysWords_129 ?_
        refine g_iload X 1 dX12_laysWords_130 rfl ?_
        refine g_isub X dX12_laysWords_132 ?_
        refine g_iload_n X 4 dX12_laysWords_133 rfl ?_
        refine g_iload X 7 dX12_laysWords_134 rfl ?_
        obtain ⟨v78, h77, hch77, hf⟩ := zc2_e hf
        refine g_callV X 4 (sX12_tells hch77) zf12 hk1 ydX12_tells w_ml_RX12_412 w_instanceMethod_X12_tells w_sel_X12_tells w_ini_RX12 w_code_X12_tells (by decide) rfl (st := [.int (v19 * (zI h18 r_74 0))]) rfl rfl (Nat.le_of_ble_eq_true rfl) dX12_laysWords_136 ?_
        refine g_iadd X dX12_laysWords_139 ?_
        refine g_topi (fun y79 ey79 => ?_)
        have hf := zlet_n ey79 hf
        refine g_istore X [(9, .int y79), (8, .int t0_84), (0, .ref (base + r0)), (1, .int x1), (2, .int x2), (5, .int x5_84), (6, .int x6_84), (7, .int x7_84)] dX12_laysWords_140 (by decide) rfl ?_
        refine g_sub [2, 4, 7, 0] rfl ?_
        exact hJ142 _ _ _ hf
    refine g_icmp_ge X 82 dX12_laysWords_74 (by decide) (fun hq => ?_) (fun hq => ?_)
    · have hf := zpos hq hf
      refine g_iload X 1 dX12_laysWords_82 rfl ?_
      refine g_sub [2, 3, 4, 5, 1, 0] rfl ?_
      exact hJ84 _ _ _ _ _ hf
    · have hf := zneg hq hf
      refine g_iload X 5 dX12_laysWords_77 rfl ?_
      refine g_goto X 84 dX12_laysWords_79 (by decide) ?_
      refine g_sub [2, 3, 4, 5, 1, 0] rfl ?_
      exact hJ84 _ _ _ _ _ hf
  refine g_icmp_ne X 55 dX12_laysWords_42 (by decide) (fun hq => ?_) (fun hq => ?_)
  · have hf := zneg hq hf
    refine g_iload X 0 dX12_laysWords_55 rfl ?_
    refine g_sub [3, 4, 5, 0] rfl ?_
    exact hJ57 _ _ _ hf
  · have hf := zpos hq hf
    refine g_aload_n X 3 dX12_laysWords_45 rfl ?_
    obtain ⟨r_80, hr_80, hf⟩ := zbd hf
    refine g_get X zf12 hk1 20 (by decide) w_f_RX12_27 rfl (zfv_r hr_80 rfl) dX12_laysWords_46 ?_
    refine g_iload X 1 dX12_laysWords_49 rfl ?_
    obtain ⟨hk81, hf⟩ := zite hf
    obtain ⟨hi82, hf⟩ := zite hf
    refine g_iald X hk81 hi82 dX12_laysWords_51 ?_
    refine g_goto X 57 dX12_laysWords_52 (by decide) ?_
    refine g_sub [3, 4, 5, 0] rfl ?_
    exact hJ57 _ _ _ hf

set_option maxHeartbeats 4000000 in
set_option maxRecDepth 100000 in
theorem sX12_laysSuit {l : Launch} {D : va_G} {cA : Nat → ClassId} {base : Nat} {sA : Nat → Nat} {r0 : Nat} {x1 : Int32} {h hE : Zh} {rE : Int32} (hf : fX12_laysSuit r0 x1 h = some (rE, hE)) : zC l yX12_laysSuit cX12_laysSuit 13 (some .int) 2 52 D cA base sA [.ref (base + r0), .int x1] h (some (.int rE)) hE := by
  refine g_entry RX12 (by decide) rfl (Nat.le_of_ble_eq_true rfl) ?_
  intro p e s m args below meth c X hr
  unfold fX12_laysSuit at hf
  have hf := zlet_n (x := h) rfl hf
  show zG p l e { frames := 2, cells := 0, slots := 0, locals := 52 } s m args below meth c (MQ below (zQ D cA base h hE (some (.int rE))) args s 0 0 (zA base)) 13 D cA base h 0 [(0, .ref (base + r0)), (1, .int x1)] [] h
  refine g_aload_n X 0 dX12_laysSuit_0 rfl ?_
  obtain ⟨hk1, hf⟩ := zite hf
  obtain ⟨v3, h2, hch2, hf⟩ := zc2_e hf
  refine g_callV X 0 (sX12_isOneOrder hch2) zf12 hk1 ydX12_isOneOrder w_ml_RX12_388 w_instanceMethod_X12_isOneOrder w_sel_X12_isOneOrder w_ini_RX12 w_code_X12_isOneOrder (by decide) rfl (st := []) rfl rfl (Nat.le_of_ble_eq_true rfl) dX12_laysSuit_1 ?_
  refine g_if_ne X 18 dX12_laysSuit_4 (by decide) (fun hq => ?_) (fun hq => ?_)
  · have hf := zneg hq hf
    refine g_bipush X (v := -2) dX12_laysSuit_18 (by decide) ?_
    obtain ⟨rfl, rfl⟩ := zsm hf
    exact g_iret X hr dX12_laysSuit_20
  · have hf := zpos hq hf
    refine g_aload_n X 0 dX12_laysSuit_7 rfl ?_
    obtain ⟨r_4, hr_4, hf⟩ := zbd hf
    refine g_get X zf12 hk1 3 (by decide) w_f_RX12_329 rfl (zfv_r hr_4 rfl) dX12_laysSuit_8 ?_
    obtain ⟨hk5, hf⟩ := zite hf
    refine g_getN X zf11 hk5 3 (by decide) w_fn_RX12_255 rfl rfl dX12_laysSuit_11 ?_
    refine g_iconst X (v := 1) dX12_laysSuit_14 (by decide) ?_
    refine g_icmp_eq X 21 dX12_laysSuit_15 (by decide) (fun hq => ?_) (fun hq => ?_)
    · have hf := zpos hq hf
      refine g_aload_n X 0 dX12_laysSuit_21 rfl ?_
      obtain ⟨r_6, hr_6, hf⟩ := zbd hf
      refine g_get X zf12 hk1 3 (by decide) w_f_RX12_329 rfl (zfv_r hr_6 rfl) dX12_laysSuit_22 ?_
      obtain ⟨hk7, hf⟩ := zite hf
      refine g_getN X zf11 hk7 0 (by decide) w_fn_RX12_194 rfl rfl dX12_laysSuit_25 ?_
      refine g_aload_n X 0 dX12_laysSuit_28 rfl ?_
      obtain ⟨r_8, hr_8, hf⟩ := zbd hf
      refine g_get X zf12 hk1 3 (by decide) w_f_RX12_329 rfl (zfv_r hr_8 rfl) dX12_laysSuit_29 ?_
      obtain ⟨hk9, hf⟩ := zite hf
      refine g_getN X zf11 hk9 1 (by decide) w_fn_RX12_253 rfl rfl dX12_laysSuit_32 ?_
      obtain ⟨hn10, hf⟩ := zite hf
      refine g_idiv X hn10 dX12_laysSuit_35 ?_
      refine g_topi (fun y11 ey11 => ?_)
      have hf := zlet_n ey11 hf
      refine g_istore_n X [(2, .int y11), (0, .ref (base + r0)), (1, .int x1)] dX12_laysSuit_36 (by decide) rfl ?_
      refine g_iconst X (v := 0) dX12_laysSuit_37 (by decide) ?_
      refine g_istore_n X [(3, .int ((0 : Int32))), (2, .int y11), (0, .ref (base + r0)), (1, .int x1)] dX12_laysSuit_38 (by decide) rfl ?_
      refine g_sub [2, 3, 1, 0] rfl ?_
      obtain ⟨qq, hlp, hf⟩ := zbd hf
      refine lp_snd (body := (fun q : Int32 × Int32 × Int32 × Int32 × Zh => bX12_laysSuit_39 h r0 x1 y11 q.1 q.2.1 q.2.2.1 q.2.2.2.1 q.2.2.2.2)) (P := (fun q : Int32 × Int32 × Int32 × Int32 × Zh => zG p l e { frames := 2, cells := 0, slots := 0, locals := 52 } s m args below meth c (MQ below (zQ D cA base h hE (some (.int rE))) args s 0 0 (zA base)) 13 D cA base h 39 [(0, .ref (base + r0)), (1, .int x1), (2, .int y11), (3, .int q.1)] [] q.2.2.2.2)) (E := (fun (en : Nat) (q : Int32 × Int32 × Int32 × Int32 × Zh) => if en = 1 then zG p l e { frames := 2, cells := 0, slots := 0, locals := 52 } s m args below meth c (MQ below (zQ D cA base h hE (some (.int rE))) args s 0 0 (zA base)) 13 D cA base h 98 [(0, .ref (base + r0)), (1, .int x1), (2, .int y11), (3, .int q.1), (4, .int q.2.1), (5, .int q.2.2.1), (6, .int q.2.2.2.1)] [] q.2.2.2.2 else zG p l e { frames := 2, cells := 0, slots := 0, locals := 52 } s m args below meth c (MQ below (zQ D cA base h hE (some (.int rE))) args s 0 0 (zA base)) 13 D cA base h 285 [] [] q.2.2.2.2)) ?_ zB ((0 : Int32), (0, (0, (0, h2)))) qq.1 qq.2 hlp ?_
      · intro q e_39 q_39 hf hc0 hc1
        obtain ⟨x3_39, x4_39, x5_39, x6_39, h_39⟩ := q
        have hf : bX12_laysSuit_39 h r0 x1 y11 x3_39 x4_39 x5_39 x6_39 h_39 = some (e_39, q_39) := hf
        unfold bX12_laysSuit_39 at hf
        show zG p l e { frames := 2, cells := 0, slots := 0, locals := 52 } s m args below meth c (MQ below (zQ D cA base h hE (some (.int rE))) args s 0 0 (zA base)) 13 D cA base h 39 [(0, .ref (base + r0)), (1, .int x1), (2, .int y11), (3, .int x3_39)] [] h_39
        refine g_iload_n X 3 dX12_laysSuit_39 rfl ?_
        refine g_aload_n X 0 dX12_laysSuit_40 rfl ?_
        obtain ⟨r_12, hr_12, hf⟩ := zbd hf
        refine g_get X zf12 hk1 3 (by decide) w_f_RX12_329 rfl (zfv_r hr_12 rfl) dX12_laysSuit_41 ?_
        obtain ⟨hk13, hf⟩ := zite hf
        refine g_getN X zf11 hk13 2 (by decide) w_fn_RX12_232 rfl rfl dX12_laysSuit_44 ?_
        refine g_icmp_ge X 285 dX12_laysSuit_47 (by decide) (fun hq => ?_) (fun hq => ?_)
        · have hf := zpos hq hf
          cases hf
          have hc1 := hc1 (by decide)
          exact g_sub [] rfl (zun_n (by decide) hc1)
        · have hf := zneg hq hf
          refine g_iload_n X 3 dX12_laysSuit_50 rfl ?_
          refine g_iconst X (v := 1) dX12_laysSuit_51 (by decide) ?_
          refine g_iadd X dX12_laysSuit_52 ?_
          refine g_topi (fun y14 ey14 => ?_)
          have hf := zlet_n ey14 hf
          refine g_istore X [(4, .int y14), (0, .ref (base + r0)), (1, .int x1), (2, .int y11), (3, .int x3_39)] dX12_laysSuit_53 (by decide) rfl ?_
          refine g_sub [1, 2, 3, 4, 0] rfl ?_
          obtain ⟨qq, hlp, hf⟩ := zbd hf
          refine lp_snd (body := (fun q : Int32 × Int32 × Int32 × Zh => bX12_laysSuit_55 h r0 x1 y11 x3_39 q.1 q.2.1 q.2.2.1 q.2.2.2)) (P := (fun q : Int32 × Int32 × Int32 × Zh => zG p l e { frames := 2, cells := 0, slots := 0, locals := 52 } s m args below meth c (MQ below (zQ D cA base h hE (some (.int rE))) args s 0 0 (zA base)) 13 D cA base h 55 [(0, .ref (base + r0)), (1, .int x1), (2, .int y11), (3, .int x3_39), (4, .int q.1)] [] q.2.2.2)) (E := (fun (en : Nat) (q : Int32 × Int32 × Int32 × Zh) => if en = 1 then zG p l e { frames := 2, cells := 0, slots := 0, locals := 52 } s m args below meth c (MQ below (zQ D cA base h hE (some (.int rE))) args s 0 0 (zA base)) 13 D cA base h 98 [(0, .ref (base + r0)), (1, .int x1), (2, .int y11), (3, .int x3_39), (4, .int q.1), (5, .int q.2.1), (6, .int q.2.2.1)] [] q.2.2.2 else zG p l e { frames := 2, cells := 0, slots := 0, locals := 52 } s m args below meth c (MQ below (zQ D cA base h hE (some (.int rE))) args s 0 0 (zA base)) 13 D cA base h 279 [(0, .ref (base + r0)), (1, .int x1), (2, .int y11), (3, .int x3_39)] [] q.2.2.2)) ?_ zB (y14, (0, (0, h_39))) qq.1 qq.2 hlp ?_
          · intro q e_55 q_55 hf hc0 hc1
            obtain ⟨x4_55, x5_55, x6_55, h_55⟩ := q
            have hf : bX12_laysSuit_55 h r0 x1 y11 x3_39 x4_55 x5_55 x6_55 h_55 = some (e_55, q_55) := hf
            unfold bX12_laysSuit_55 at hf
            show zG p l e { frames := 2, cells := 0, slots := 0, locals := 52 } s m args below meth c (MQ below (zQ D cA base h hE (some (.int rE))) args s 0 0 (zA base)) 13 D cA base h 55 [(0, .ref (base + r0)), (1, .int x1), (2, .int y11), (3, .int x3_39), (4, .int x4_55)] [] h_55
            refine g_iload X 4 dX12_laysSuit_55 rfl ?_
            refine g_aload_n X 0 dX12_laysSuit_57 rfl ?_
            obtain ⟨r_15, hr_15, hf⟩ := zbd hf
            refine g_get X zf12 hk1 3 (by decide) w_f_RX12_329 rfl (zfv_r hr_15 rfl) dX12_laysSuit_58 ?_
            obtain ⟨hk16, hf⟩ := zite hf
            refine g_getN X zf11 hk16 2 (by decide) w_fn_RX12_232 rfl rfl dX12_laysSuit_61 ?_
            refine g_icmp_ge X 279 dX12_laysSuit_64 (by decide) (fun hq => ?_) (fun hq => ?_)
            · have hf := zpos hq hf
              cases hf
              have hc1 := hc1 (by decide)
              exact g_sub [0, 1, 2, 3] rfl (zun_n (by decide) hc1)
            · have hf := zneg hq hf
              refine g_aload_n X 0 dX12_laysSuit_67 rfl ?_
              refine g_iload_n X 1 dX12_laysSuit_68 rfl ?_
              refine g_iload_n X 3 dX12_laysSuit_69 rfl ?_
              obtain ⟨v18, h17, hch17, hf⟩ := zc2_e hf
              refine g_callV X 2 (sX12_cardOf hch17) zf12 hk1 ydX12_cardOf w_ml_RX12_366 w_instanceMethod_X12_cardOf w_sel_X12_cardOf w_ini_RX12 w_code_X12_cardOf (by decide) rfl (st := []) rfl rfl (Nat.le_of_ble_eq_true rfl) dX12_laysSuit_70 ?_
              refine g_istore X [(5, .int v18), (0, .ref (base + r0)), (1, .int x1), (2, .int y11), (3, .int x3_39), (4, .int x4_55)] dX12_laysSuit_73 (by decide) rfl ?_
              refine g_aload_n X 1 dX12_laysSuit_75 rfl ?_
              refine g_iload_n X 2 dX12_laysSuit_76 rfl ?_
              refine g_iload X 5 dX12_laysSuit_77 rfl ?_
              obtain ⟨v20, h19, hch19, hf⟩ := zc2_e hf
              refine g_callV X 2 (sX12_cardOf hch19) zf12 hk1 ydX12_cardOf w_ml_RX12_366 w_instanceMethod_X12_cardOf w_sel_X12_cardOf w_ini_RX12 w_code_X12_cardOf (by decide) rfl (st := []) rfl rfl (Nat.le_of_ble_eq_true rfl) dX12_laysSuit_79 ?_
              refine g_istore X [(6, .int v20), (5, .int v18), (0, .ref (base + r0)), (1, .int x1), (2, .int y11), (3, .int x3_39), (4, .int x4_55)] dX12_laysSuit_82 (by decide) rfl ?_
              refine g_iload X 1 dX12_laysSuit_84 rfl ?_
              refine g_iload_n X 4 dX12_laysSuit_86 rfl ?_
              obtain ⟨hn21, hf⟩ := zite hf
              refine g_idiv X hn21 dX12_laysSuit_87 ?_
              refine g_iload X 0 dX12_laysSuit_88 rfl ?_
              refine g_iload_n X 4 dX12_laysSuit_90 rfl ?_
              obtain ⟨hn22, hf⟩ := zite hf
              refine g_idiv X hn22 dX12_laysSuit_91 ?_
              refine g_icmp_eq X 98 dX12_laysSuit_92 (by decide) (fun hq => ?_) (fun hq => ?_)
              · have hf := zpos hq hf
                cases hf
                have hc1 := hc1 (by decide)
                exact g_sub [2, 3, 4, 5, 6, 1, 0] rfl (zun_p rfl hc1)
              · have hf := zneg hq hf
                refine g_goto X 273 dX12_laysSuit_95 (by decide) ?_
                obtain ⟨y23, ey23⟩ : ∃ y : Int32, y = x4_55 + (1 : Int32) := ⟨_, rfl⟩
                have hf := zlet_n ey23 hf
                refine g_iinc X (j := 6) [(4, .int y23), (6, .int v20), (5, .int v18), (0, .ref (base + r0)), (1, .int x1), (2, .int y11), (3, .int x3_39)] dX12_laysSuit_273 rfl (by rw [ey23]; rfl) (by decide) rfl ?_
                refine g_goto X 55 dX12_laysSuit_276 (by decide) ?_
                cases hf
                exact g_sub [3, 4, 5, 6, 0] rfl (hc0 rfl)
          · obtain ⟨ee, x4_k55, x5_k55, x6_k55, h_k55⟩ := qq
            have hf : kX12_laysSuit_55 h r0 x1 y11 x3_39 ee x4_k55 x5_k55 x6_k55 h_k55 = some (e_39, q_39) := hf
            unfold kX12_laysSuit_55 at hf
            by_cases hee0 : ee = 1
            · have hf := zpos hee0 hf
              refine zifp hee0 ?_
              show zG p l e { frames := 2, cells := 0, slots := 0, locals := 52 } s m args below meth c (MQ below (zQ D cA base h hE (some (.int rE))) args s 0 0 (zA base)) 13 D cA base h 98 [(0, .ref (base + r0)), (1, .int x1), (2, .int y11), (3, .int x3_39), (4, .int x4_k55), (5, .int x5_k55), (6, .int x6_k55)] [] h_k55
              cases hf
              have hc1 := hc1 (by decide)
              exact g_sub [0, 1, 2, 3, 4, 5, 6] rfl (zun_p rfl hc1)
            have hf := zneg hee0 hf
            refine zifn hee0 ?_
            show zG p l e { frames := 2, cells := 0, slots := 0, locals := 52 } s m args below meth c (MQ below (zQ D cA base h hE (some (.int rE))) args s 0 0 (zA base)) 13 D cA base h 279 [(0, .ref (base + r0)), (1, .int x1), (2, .int y11), (3, .int x3_39)] [] h_k55
            obtain ⟨y24, ey24⟩ : ∃ y : Int32, y = x3_39 + (1 : Int32) := ⟨_, rfl⟩
            have hf := zlet_n ey24 hf
            refine g_iinc X (j := 3) [(3, .int y24), (0, .ref (base + r0)), (1, .int x1), (2, .int y11)] dX12_laysSuit_279 rfl (by rw [ey24]; rfl) (by decide) rfl ?_
            refine g_goto X 39 dX12_laysSuit_282 (by decide) ?_
            cases hf
            exact g_sub [1, 2, 3, 0] rfl (hc0 rfl)
      · obtain ⟨ee, x3_k39, x4_k39, x5_k39, x6_k39, h_k39⟩ := qq
        have hf : kX12_laysSuit_39 h r0 x1 y11 ee x3_k39 x4_k39 x5_k39 x6_k39 h_k39 = some (rE, hE) := hf
        unfold kX12_laysSuit_39 at hf
        by_cases hee0 : ee = 1
        · have hf := zpos hee0 hf
          refine zifp hee0 ?_
          show zG p l e { frames := 2, cells := 0, slots := 0, locals := 52 } s m args below meth c (MQ below (zQ D cA base h hE (some (.int rE))) args s 0 0 (zA base)) 13 D cA base h 98 [(0, .ref (base + r0)), (1, .int x1), (2, .int y11), (3, .int x3_k39), (4, .int x4_k39), (5, .int x5_k39), (6, .int x6_k39)] [] h_k39
          refine g_iload X 6 dX12_laysSuit_98 rfl ?_
          refine g_iload X 5 dX12_laysSuit_100 rfl ?_
          refine g_isub X dX12_laysSuit_102 ?_
          refine g_topi (fun y25 ey25 => ?_)
          have hf := zlet_n ey25 hf
          refine g_istore X [(7, .int y25), (0, .ref (base + r0)), (1, .int x1), (2, .int y11), (3, .int x3_k39), (4, .int x4_k39), (5, .int x5_k39), (6, .int x6_k39)] dX12_laysSuit_103 (by decide) rfl ?_
          refine g_iconst X (v := 2) dX12_laysSuit_105 (by decide) ?_
          refine g_iload X 0 dX12_laysSuit_106 rfl ?_
          refine g_imul X dX12_laysSuit_108 ?_
          refine g_iload_n X 3 dX12_laysSuit_109 rfl ?_
          have hJ118 : ∀ (x2_118 : Int32) (x3_118 : Int32) (x4_118 : Int32) (x5_118 : Int32) (x6_118 : Int32) (x7_118 : Int32) (t0_118 : Int32) (h_118 : Zh), jX12_laysSuit_118 h r0 x1 x2_118 x3_118 x4_118 x5_118 x6_118 x7_118 t0_118 h_118 = some (rE, hE) → zG p l e { frames := 2, cells := 0, slots := 0, locals := 52 } s m args below meth c (MQ below (zQ D cA base h hE (some (.int rE))) args s 0 0 (zA base)) 13 D cA base h 118 [(0, .ref (base + r0)), (1, .int x1), (2, .int x2_118), (3, .int x3_118), (4, .int x4_118), (5, .int x5_118), (6, .int x6_118), (7, .int x7_118)] [.int t0_118] h_118 := by
            intro x2_118 x3_118 x4_118 x5_118 x6_118 x7_118 t0_118 h_118 hf
            unfold jX12_laysSuit_118 at hf
            refine g_istore X [(8, .int t0_118), (0, .ref (base + r0)), (1, .int x1), (2, .int x2_118), (3, .int x3_118), (4, .int x4_118), (5, .int x5_118), (6, .int x6_118), (7, .int x7_118)] dX12_laysSuit_118 (by decide) rfl ?_
            refine g_iload X 0 dX12_laysSuit_120 rfl ?_
            have hJ132 : ∀ (x2_132 : Int32) (x3_132 : Int32) (x4_132 : Int32) (x7_132 : Int32) (x8_132 : Int32) (t0_132 : Int32) (h_132 : Zh), jX12_laysSuit_132 h r0 x1 x2_132 x3_132 x4_132 x7_132 x8_132 t0_132 h_132 = some (rE, hE) → zG p l e { frames := 2, cells := 0, slots := 0, locals := 52 } s m args below meth c (MQ below (zQ D cA base h hE (some (.int rE))) args s 0 0 (zA base)) 13 D cA base h 132 [(0, .ref (base + r0)), (1, .int x1), (2, .int x2_132), (3, .int x3_132), (4, .int x4_132), (7, .int x7_132), (8, .int x8_132)] [.int t0_132] h_132 := by
              intro x2_132 x3_132 x4_132 x7_132 x8_132 t0_132 h_132 hf
              unfold jX12_laysSuit_132 at hf
              refine g_istore X [(9, .int t0_132), (0, .ref (base + r0)), (1, .int x1), (2, .int x2_132), (3, .int x3_132), (4, .int x4_132), (7, .int x7_132), (8, .int x8_132)] dX12_laysSuit_132 (by decide) rfl ?_
              refine g_iload X 7 dX12_laysSuit_134 rfl ?_
              have hJ148 : ∀ (x3_148 : Int32) (x4_148 : Int32) (x9_148 : Int32) (t0_148 : Int32) (h_148 : Zh), jX12_laysSuit_148 h r0 x1 x3_148 x4_148 x9_148 t0_148 h_148 = some (rE, hE) → zG p l e { frames := 2, cells := 0, slots := 0, locals := 52 } s m args below meth c (MQ below (zQ D cA base h hE (some (.int rE))) args s 0 0 (zA base)) 13 D cA base h 148 [(0, .ref (base + r0)), (1, .int x1), (3, .int x3_148), (4, .int x4_148), (9, .int x9_148)] [.int t0_148] h_148 := by
                intro x3_148 x4_148 x9_148 t0_148 h_148 hf
                unfold jX12_laysSuit_148 at hf
                refine g_iconst X (v := 1) dX12_laysSuit_148 (by decide) ?_
                refine g_isub X dX12_laysSuit_149 ?_
                refine g_topi (fun y26 ey26 => ?_)
                have hf := zlet_n ey26 hf
                refine g_istore X [(10, .int y26), (0, .ref (base + r0)), (1, .int x1), (3, .int x3_148), (4, .int x4_148), (9, .int x9_148)] dX12_laysSuit_150 (by decide) rfl ?_
                refine g_iload X 0 dX12_laysSuit_152 rfl ?_
                refine g_i2l X dX12_laysSuit_154 ?_
                refine g_aload_n X 1 dX12_laysSuit_155 rfl ?_
                obtain ⟨r_27, hr_27, hf⟩ := zbd hf
                refine g_get X zf12 hk1 3 (by decide) w_f_RX12_329 rfl (zfv_r hr_27 rfl) dX12_laysSuit_156 ?_
                obtain ⟨hk28, hf⟩ := zite hf
                refine g_getN X zf11 hk28 4 (by decide) w_fn_RX12_257 rfl rfl dX12_laysSuit_159 ?_
                refine g_iconst X (v := 1) dX12_laysSuit_162 (by decide) ?_
                refine g_isub X dX12_laysSuit_163 ?_
                refine g_aload_n X 1 dX12_laysSuit_164 rfl ?_
                obtain ⟨r_29, hr_29, hf⟩ := zbd hf
                refine g_get X zf12 hk1 3 (by decide) w_f_RX12_329 rfl (zfv_r hr_29 rfl) dX12_laysSuit_165 ?_
                obtain ⟨hk30, hf⟩ := zite hf
                refine g_getN X zf11 hk30 4 (by decide) w_fn_RX12_257 rfl rfl dX12_laysSuit_168 ?_
                refine g_iconst X (v := 1) dX12_laysSuit_171 (by decide) ?_
                refine g_isub X dX12_laysSuit_172 ?_
                obtain ⟨v32, h31, hch31, hf⟩ := zc2_e hf
                refine g_callS X 2 (sX12_rowsOf hch31) ysX12_rowsOf w_ml_RX12_99 w_static_X12_rowsOf w_ini_RX12 w_code_X12_rowsOf (by decide) rfl (st := [.long y26.toInt64]) rfl rfl (Nat.le_of_ble_eq_true rfl) dX12_laysSuit_173 ?_
                refine g_lcmp X dX12_laysSuit_176 ?_
                refine g_if_lt X 183 dX12_laysSuit_177 (by decide) (fun hq => ?_) (fun hq => ?_)
                · have hf := zpos hq hf
                  refine g_aload_n X 1 dX12_laysSuit_183 rfl ?_
                  obtain ⟨r_33, hr_33, hf⟩ := zbd hf
                  refine g_get X zf12 hk1 19 (by decide) w_f_RX12_24 rfl (zfv_r hr_33 rfl) dX12_laysSuit_184 ?_
                  refine g_iconst X (v := 0) dX12_laysSuit_187 (by decide) ?_
                  refine g_iload X 5 dX12_laysSuit_188 rfl ?_
                  obtain ⟨hk34, hf⟩ := zite hf
                  obtain ⟨hi35, hf⟩ := zite hf
                  refine g_iast X hk34 hi35 dX12_laysSuit_190 ?_
                  refine g_hp (fun h36 eh36 => ?_)
                  have hf := zlet_n eh36 hf
                  refine g_iconst X (v := 1) dX12_laysSuit_191 (by decide) ?_
                  refine g_istore X [(11, .int ((1 : Int32))), (10, .int y26), (0, .ref (base + r0)), (1, .int x1), (3, .int x3_148), (4, .int x4_148), (9, .int x9_148)] dX12_laysSuit_192 (by decide) rfl ?_
                  refine g_iconst X (v := 0) dX12_laysSuit_194 (by decide) ?_
                  refine g_istore X [(12, .int ((0 : Int32))), (11, .int ((1 : Int32))), (10, .int y26), (0, .ref (base + r0)), (1, .int x1), (3, .int x3_148), (4, .int x4_148), (9, .int x9_148)] dX12_laysSuit_195 (by decide) rfl ?_
                  refine g_sub [3, 4, 5, 6, 2, 1, 0] rfl ?_
                  obtain ⟨qq, hlp, hf⟩ := zbd hf
                  refine lp_snd (body := (fun q : Int32 × Int32 × Zh => bX12_laysSuit_197 h r0 x1 x3_148 x4_148 q.1 q.2.1 q.2.2)) (P := (fun q : Int32 × Int32 × Zh => zG p l e { frames := 2, cells := 0, slots := 0, locals := 52 } s m args below meth c (MQ below (zQ D cA base h hE (some (.int rE))) args s 0 0 (zA base)) 13 D cA base h 197 [(0, .ref (base + r0)), (1, .int x1), (3, .int x3_148), (4, .int x4_148), (10, .int y26), (11, .int q.1), (12, .int q.2.1)] [] q.2.2)) (E := (fun (en : Nat) (q : Int32 × Int32 × Zh) => zG p l e { frames := 2, cells := 0, slots := 0, locals := 52 } s m args below meth c (MQ below (zQ D cA base h hE (some (.int rE))) args s 0 0 (zA base)) 13 D cA base h 248 [(0, .ref (base + r0)), (10, .int y26)] [] q.2.2)) ?_ zB ((1 : Int32), ((0 : Int32), h36)) qq.1 qq.2 hlp ?_
                  · intro q e_197 q_197 hf hc0 hc1
                    obtain ⟨x11_197, x12_197, h_197⟩ := q
                    have hf : bX12_laysSuit_197 h r0 x1 x3_148 x4_148 x11_197 x12_197 h_197 = some (e_197, q_197) := hf
                    unfold bX12_laysSuit_197 at hf
                    show zG p l e { frames := 2, cells := 0, slots := 0, locals := 52 } s m args below meth c (MQ below (zQ D cA base h hE (some (.int rE))) args s 0 0 (zA base)) 13 D cA base h 197 [(0, .ref (base + r0)), (1, .int x1), (3, .int x3_148), (4, .int x4_148), (10, .int y26), (11, .int x11_197), (12, .int x12_197)] [] h_197
                    refine g_iload X 6 dX12_laysSuit_197 rfl ?_
                    refine g_aload_n X 0 dX12_laysSuit_199 rfl ?_
                    obtain ⟨r_37, hr_37, hf⟩ := zbd hf
                    refine g_get X zf12 hk1 3 (by decide) w_f_RX12_329 rfl (zfv_r hr_37 rfl) dX12_laysSuit_200 ?_
                    obtain ⟨hk38, hf⟩ := zite hf
                    refine g_getN X zf11 hk38 2 (by decide) w_fn_RX12_232 rfl rfl dX12_laysSuit_203 ?_
                    refine g_icmp_ge X 248 dX12_laysSuit_206 (by decide) (fun hq => ?_) (fun hq => ?_)
                    · have hf := zpos hq hf
                      cases hf
                      have hc1 := hc1 (by decide)
                      exact g_sub [0, 4] rfl hc1
                    · have hf := zneg hq hf
                      refine g_iload X 6 dX12_laysSuit_209 rfl ?_
                      refine g_iload_n X 2 dX12_laysSuit_211 rfl ?_
                      refine g_icmp_eq X 242 dX12_laysSuit_212 (by decide) (fun hq => ?_) (fun hq => ?_)
                      · have hf := zpos hq hf
                        obtain ⟨y39, ey39⟩ : ∃ y : Int32, y = x12_197 + (1 : Int32) := ⟨_, rfl⟩
                        have hf := zlet_n ey39 hf
                        refine g_iinc X (j := 6) [(12, .int y39), (0, .ref (base + r0)), (1, .int x1), (3, .int x3_148), (4, .int x4_148), (10, .int y26), (11, .int x11_197)] dX12_laysSuit_242 rfl (by rw [ey39]; rfl) (by decide) rfl ?_
                        refine g_goto X 197 dX12_laysSuit_245 (by decide) ?_
                        cases hf
                        exact g_sub [1, 2, 3, 4, 5, 6, 0] rfl (hc0 rfl)
                      · have hf := zneg hq hf
                        refine g_iload X 6 dX12_laysSuit_215 rfl ?_
                        refine g_iload X 3 dX12_laysSuit_217 rfl ?_
                        refine g_icmp_ne X 225 dX12_laysSuit_219 (by decide) (fun hq => ?_) (fun hq => ?_)
                        · have hf := zneg hq hf
                          refine g_aload_n X 0 dX12_laysSuit_225 rfl ?_
                          obtain ⟨r_40, hr_40, hf⟩ := zbd hf
                          refine g_get X zf12 hk1 19 (by decide) w_f_RX12_24 rfl (zfv_r hr_40 rfl) dX12_laysSuit_226 ?_
                          refine g_iload X 5 dX12_laysSuit_229 rfl ?_
                          refine g_aload_n X 0 dX12_laysSuit_231 rfl ?_
                          refine g_iload_n X 1 dX12_laysSuit_232 rfl ?_
                          refine g_iload X 6 dX12_laysSuit_233 rfl ?_
                          obtain ⟨v42, h41, hch41, hf⟩ := zc2_e hf
                          refine g_callV X 2 (sX12_cardOf hch41) zf12 hk1 ydX12_cardOf w_ml_RX12_366 w_instanceMethod_X12_cardOf w_sel_X12_cardOf w_ini_RX12 w_code_X12_cardOf (by decide) rfl (st := [.int x11_197, .ref (base + r_40)]) rfl rfl (Nat.le_of_ble_eq_true rfl) dX12_laysSuit_235 ?_
                          obtain ⟨hk43, hf⟩ := zite hf
                          obtain ⟨hi44, hf⟩ := zite hf
                          refine g_iast X hk43 hi44 dX12_laysSuit_238 ?_
                          refine g_hp (fun h45 eh45 => ?_)
                          have hf := zlet_n eh45 hf
                          obtain ⟨y46, ey46⟩ : ∃ y : Int32, y = x11_197 + (1 : Int32) := ⟨_, rfl⟩
                          have hf := zlet_n ey46 hf
                          refine g_iinc X (j := 5) [(11, .int y46), (0, .ref (base + r0)), (1, .int x1), (3, .int x3_148), (4, .int x4_148), (10, .int y26), (12, .int x12_197)] dX12_laysSuit_239 rfl (by rw [ey46]; rfl) (by decide) rfl ?_
                          obtain ⟨y47, ey47⟩ : ∃ y : Int32, y = x12_197 + (1 : Int32) := ⟨_, rfl⟩
                          have hf := zlet_n ey47 hf
                          refine g_iinc X (j := 6) [(12, .int y47), (11, .int y46), (0, .ref (base + r0)), (1, .int x1), (3, .int x3_148), (4, .int x4_148), (10, .int y26)] dX12_laysSuit_242 rfl (by rw [ey47]; rfl) (by decide) rfl ?_
                          refine g_goto X 197 dX12_laysSuit_245 (by decide) ?_
                          cases hf
                          exact g_sub [2, 3, 4, 5, 6, 1, 0] rfl (hc0 rfl)
                        · have hf := zpos hq hf
                          refine g_goto X 242 dX12_laysSuit_222 (by decide) ?_
                          obtain ⟨y48, ey48⟩ : ∃ y : Int32, y = x12_197 + (1 : Int32) := ⟨_, rfl⟩
                          have hf := zlet_n ey48 hf
                          refine g_iinc X (j := 6) [(12, .int y48), (0, .ref (base + r0)), (1, .int x1), (3, .int x3_148), (4, .int x4_148), (10, .int y26), (11, .int x11_197)] dX12_laysSuit_242 rfl (by rw [ey48]; rfl) (by decide) rfl ?_
                          refine g_goto X 197 dX12_laysSuit_245 (by decide) ?_
                          cases hf
                          exact g_sub [1, 2, 3, 4, 5, 6, 0] rfl (hc0 rfl)
                  · obtain ⟨ee, x11_k197, x12_k197, h_k197⟩ := qq
                    have hf : kX12_laysSuit_197 h r0 y26 ee x11_k197 x12_k197 h_k197 = some (rE, hE) := hf
                    unfold kX12_laysSuit_197 at hf
                    show zG p l e { frames := 2, cells := 0, slots := 0, locals := 52 } s m args below meth c (MQ below (zQ D cA base h hE (some (.int rE))) args s 0 0 (zA base)) 13 D cA base h 248 [(0, .ref (base + r0)), (10, .int y26)] [] h_k197
                    refine g_aload_n X 0 dX12_laysSuit_248 rfl ?_
                    refine g_iload X 1 dX12_laysSuit_249 rfl ?_
                    refine g_iconst X (v := 1) dX12_laysSuit_251 (by decide) ?_
                    obtain ⟨h49, hch49, hf⟩ := zbd hf
                    refine g_callV X 2 (sX12_orders hch49) zf12 hk1 ydX12_orders w_ml_RX12_415 w_instanceMethod_X12_orders w_sel_X12_orders w_ini_RX12 w_code_X12_orders (by decide) rfl (st := []) rfl rfl (Nat.le_of_ble_eq_true rfl) dX12_laysSuit_252 ?_
                    refine g_aload_n X 0 dX12_laysSuit_255 rfl ?_
                    refine g_aload_n X 0 dX12_laysSuit_256 rfl ?_
                    obtain ⟨r_50, hr_50, hf⟩ := zbd hf
                    refine g_get X zf12 hk1 19 (by decide) w_f_RX12_24 rfl (zfv_r hr_50 rfl) dX12_laysSuit_257 ?_
                    refine g_iconst X (v := 0) dX12_laysSuit_260 (by decide) ?_
                    obtain ⟨v52, h51, hch51, hf⟩ := zc2_e hf
                    refine g_callV X 2 (sX12_rowNumber hch51) zf12 hk1 ydX12_rowNumber w_ml_RX12_351 w_instanceMethod_X12_rowNumber w_sel_X12_rowNumber w_ini_RX12 w_code_X12_rowNumber (by decide) rfl (st := []) rfl rfl (Nat.le_of_ble_eq_true rfl) dX12_laysSuit_261 ?_
                    refine g_aload_n X 0 dX12_laysSuit_264 rfl ?_
                    obtain ⟨r_53, hr_53, hf⟩ := zbd hf
                    refine g_get X zf12 hk1 3 (by decide) w_f_RX12_329 rfl (zfv_r hr_53 rfl) dX12_laysSuit_265 ?_
                    obtain ⟨hk54, hf⟩ := zite hf
                    obtain ⟨v56, h55, hch55, hf⟩ := zc2_e hf
                    refine g_callV X 0 (sX11_tilts hch55) zf11 hk54 ydX11_tilts w_ml_RX12_354 w_instanceMethod_X11_tilts w_sel_X11_tilts w_ini_RX11 w_code_X11_tilts (by decide) rfl (st := [.int v52]) rfl rfl (Nat.le_of_ble_eq_true rfl) dX12_laysSuit_268 ?_
                    refine g_imul X dX12_laysSuit_271 ?_
                    obtain ⟨rfl, rfl⟩ := zsm hf
                    exact g_iret X hr dX12_laysSuit_272
                · have hf := zneg hq hf
                  refine g_bipush X (v := -2) dX12_laysSuit_180 (by decide) ?_
                  obtain ⟨rfl, rfl⟩ := zsm hf
                  exact g_iret X hr dX12_laysSuit_182
              refine g_if_eq X 144 dX12_laysSuit_136 (by decide) (fun hq => ?_) (fun hq => ?_)
              · have hf := zpos hq hf
                refine g_iload_n X 3 dX12_laysSuit_144 rfl ?_
                refine g_iload X 6 dX12_laysSuit_145 rfl ?_
                refine g_isub X dX12_laysSuit_147 ?_
                refine g_sub [1, 2, 4, 5, 0] rfl ?_
                exact hJ148 _ _ _ _ _ hf
              · have hf := zneg hq hf
                refine g_iload X 6 dX12_laysSuit_139 rfl ?_
                refine g_goto X 148 dX12_laysSuit_141 (by decide) ?_
                refine g_sub [1, 2, 4, 5, 0] rfl ?_
                exact hJ148 _ _ _ _ _ hf
            refine g_if_eq X 130 dX12_laysSuit_122 (by decide) (fun hq => ?_) (fun hq => ?_)
            · have hf := zpos hq hf
              refine g_iload X 7 dX12_laysSuit_130 rfl ?_
              refine g_sub [1, 2, 3, 4, 5, 8, 0] rfl ?_
              exact hJ132 _ _ _ _ _ _ _ hf
            · have hf := zneg hq hf
              refine g_iload X 6 dX12_laysSuit_125 rfl ?_
              refine g_goto X 132 dX12_laysSuit_127 (by decide) ?_
              refine g_sub [1, 2, 3, 4, 5, 8, 0] rfl ?_
              exact hJ132 _ _ _ _ _ _ _ hf
          refine g_icmp_gt X 117 dX12_laysSuit_110 (by decide) (fun hq => ?_) (fun hq => ?_)
          · have hf := zpos hq hf
            refine g_iconst X (v := 0) dX12_laysSuit_117 (by decide) ?_
            refine g_sub [1, 2, 3, 4, 5, 6, 7, 0] rfl ?_
            exact hJ118 _ _ _ _ _ _ _ _ hf
          · have hf := zneg hq hf
            refine g_iconst X (v := 1) dX12_laysSuit_113 (by decide) ?_
            refine g_goto X 118 dX12_laysSuit_114 (by decide) ?_
            refine g_sub [1, 2, 3, 4, 5, 6, 7, 0] rfl ?_
            exact hJ118 _ _ _ _ _ _ _ _ hf
        have hf := zneg hee0 hf
        refine zifn hee0 ?_
        show zG p l e { frames := 2, cells := 0, slots := 0, locals := 52 } s m args below meth c (MQ below (zQ D cA base h hE (some (.int rE))) args s 0 0 (zA base)) 13 D cA base h 285 [] [] h_k39
        refine g_bipush X (v := -2) dX12_laysSuit_285 (by decide) ?_
        obtain ⟨rfl, rfl⟩ := zsm hf
        exact g_iret X hr dX12_laysSuit_287
    · have hf := zneg hq hf
      refine g_bipush X (v := -2) dX12_laysSuit_18 (by decide) ?_
      obtain ⟨rfl, rfl⟩ := zsm hf
      exact g_iret X hr dX12_laysSuit_20

set_option maxHeartbeats 4000000 in
set_option maxRecDepth 100000 in
theorem sX12_clearOwners {l : Launch} {D : va_G} {cA : Nat → ClassId} {base : Nat} {sA : Nat → Nat} {r0 : Nat} {h hE : Zh} (hf : fX12_clearOwners r0 h = some hE) : zC l yX12_clearOwners cX12_clearOwners 2 none 0 0 D cA base sA [.ref (base + r0)] h none hE := by
  refine g_entry RX12 (by decide) rfl (Nat.le_of_ble_eq_true rfl) ?_
  intro p e s m args below meth c X hr
  unfold fX12_clearOwners at hf
  have hf := zlet_n (x := h) rfl hf
  show zG p l e { frames := 0, cells := 0, slots := 0, locals := 0 } s m args below meth c (MQ below (zQ D cA base h hE none) args s 0 0 (zA base)) 2 D cA base h 0 [(0, .ref (base + r0))] [] h
  refine g_iconst X (v := 0) dX12_clearOwners_0 (by decide) ?_
  refine g_istore_n X [(1, .int ((0 : Int32))), (0, .ref (base + r0))] dX12_clearOwners_1 (by decide) rfl ?_
  refine g_sub [1, 0] rfl ?_
  obtain ⟨qq, hlp, hf⟩ := zbd hf
  refine lp_snd (body := (fun q : Int32 × Zh => bX12_clearOwners_2 h r0 q.1 q.2)) (P := (fun q : Int32 × Zh => zG p l e { frames := 0, cells := 0, slots := 0, locals := 0 } s m args below meth c (MQ below (zQ D cA base h hE none) args s 0 0 (zA base)) 2 D cA base h 2 [(0, .ref (base + r0)), (1, .int q.1)] [] q.2)) (E := (fun (en : Nat) (q : Int32 × Zh) => zG p l e { frames := 0, cells := 0, slots := 0, locals := 0 } s m args below meth c (MQ below (zQ D cA base h hE none) args s 0 0 (zA base)) 2 D cA base h 21 [] [] q.2)) ?_ zB ((0 : Int32), h) qq.1 qq.2 hlp ?_
  · intro q e_2 q_2 hf hc0 hc1
    obtain ⟨x1_2, h_2⟩ := q
    have hf : bX12_clearOwners_2 h r0 x1_2 h_2 = some (e_2, q_2) := hf
    unfold bX12_clearOwners_2 at hf
    show zG p l e { frames := 0, cells := 0, slots := 0, locals := 0 } s m args below meth c (MQ below (zQ D cA base h hE none) args s 0 0 (zA base)) 2 D cA base h 2 [(0, .ref (base + r0)), (1, .int x1_2)] [] h_2
    refine g_iload_n X 1 dX12_clearOwners_2 rfl ?_
    refine g_ldc X w_c_RX12_42 dX12_clearOwners_3 ?_
    refine g_icmp_ge X 21 dX12_clearOwners_5 (by decide) (fun hq => ?_) (fun hq => ?_)
    · have hf := zpos hq hf
      cases hf
      have hc1 := hc1 (by decide)
      exact g_sub [] rfl hc1
    · have hf := zneg hq hf
      refine g_aload_n X 0 dX12_clearOwners_8 rfl ?_
      obtain ⟨hk1, hf⟩ := zite hf
      obtain ⟨r_2, hr_2, hf⟩ := zbd hf
      refine g_get X zf12 hk1 27 (by decide) w_f_RX12_43 rfl (zfv_r hr_2 rfl) dX12_clearOwners_9 ?_
      refine g_iload_n X 1 dX12_clearOwners_12 rfl ?_
      refine g_iconst X (v := -1) dX12_clearOwners_13 (by decide) ?_
      obtain ⟨hk3, hf⟩ := zite hf
      obtain ⟨hi4, hf⟩ := zite hf
      refine g_iast X hk3 hi4 dX12_clearOwners_14 ?_
      refine g_hp (fun h5 eh5 => ?_)
      have hf := zlet_n eh5 hf
      obtain ⟨y6, ey6⟩ : ∃ y : Int32, y = x1_2 + (1 : Int32) := ⟨_, rfl⟩
      have hf := zlet_n ey6 hf
      refine g_iinc X (j := 1) [(1, .int y6), (0, .ref (base + r0))] dX12_clearOwners_15 rfl (by rw [ey6]; rfl) (by decide) rfl ?_
      refine g_goto X 2 dX12_clearOwners_18 (by decide) ?_
      cases hf
      exact g_sub [1, 0] rfl (hc0 rfl)
  · obtain ⟨ee, x1_k2, h_k2⟩ := qq
    have hf : kX12_clearOwners_2 h ee x1_k2 h_k2 = some hE := hf
    unfold kX12_clearOwners_2 at hf
    show zG p l e { frames := 0, cells := 0, slots := 0, locals := 0 } s m args below meth c (MQ below (zQ D cA base h hE none) args s 0 0 (zA base)) 2 D cA base h 21 [] [] h_k2
    cases hf
    exact g_vret X hr dX12_clearOwners_21

