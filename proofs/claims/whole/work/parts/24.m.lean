/-! FifthCardModel slot -/
def bX12_slot_9 (g : Zh) (r0 : Nat) (x1 : Int32) (x2 : Int32) (h : Zh) : Option (Nat × Int32 × Zh) :=
  if zK g r0 = 12 then (zR h r0 27).bind fun r_3 => if zK g r_3 = 100 then if zin x2 (zL g r_3) then if (zI h r_3 x2.toNatClampNeg) = ((-1 : Int32)) then some (1, (x2, h)) else (zR h r0 27).bind fun r_6 => if zK g r_6 = 100 then if zin x2 (zL g r_6) then if (zI h r_6 x2.toNatClampNeg) = x1 then some (1, (x2, h)) else zlet ((x2 + ((1 : Int32))) &&& ((32767 : Int32))) fun y9 => some (0, (y9, h)) else none else none else none else none else none
def kX12_slot_9 (g : Zh)  (e : Nat) (x2 : Int32) (h : Zh) : Option (Int32 × Zh) :=
  some (x2, h)
def fX12_slot (r0 : Nat) (x1 : Int32) (h : Zh) : Option (Int32 × Zh) := zlet h fun g =>
  zlet (zush (x1 * ((-1640531535 : Int32))) ((17 : Int32))) fun y1 => (lp (fun q : Int32 × Zh => bX12_slot_9 g r0 x1 q.1 q.2) zB (y1, h)).bind fun q => kX12_slot_9 g q.1 q.2.1 q.2.2
/-! FifthCardModel ownerOf -/
def fX12_ownerOf (r0 : Nat) (x1 : Int32) (h : Zh) : Option (Int32 × Zh) := zlet h fun g =>
  if zK g r0 = 12 then zc2 (fX12_slot r0 x1 h) fun v3 h2 => (zR h2 r0 27).bind fun r_4 => if zK g r_4 = 100 then if zin v3 (zL g r_4) then if (zI h2 r_4 v3.toNatClampNeg) = ((-1 : Int32)) then some ((-1 : Int32), h2) else (zR h2 r0 28).bind fun r_7 => if zK g r_7 = 100 then if zin v3 (zL g r_7) then some (zI h2 r_7 v3.toNatClampNeg, h2) else none else none else none else none else none
/-! FifthCardModel owns -/
def fX12_owns (r0 : Nat) (x1 : Int32) (x2 : Int32) (h : Zh) : Option Zh := zlet h fun g =>
  if zK g r0 = 12 then zc2 (fX12_slot r0 x1 h) fun v3 h2 => (zR h2 r0 27).bind fun r_4 => if zK g r_4 = 100 then if zin v3 (zL g r_4) then zlet (zsI h2 r_4 v3.toNatClampNeg x1) fun h7 => (zR h7 r0 28).bind fun r_8 => if zK g r_8 = 100 then if zin v3 (zL g r_8) then zlet (zsI h7 r_8 v3.toNatClampNeg x2) fun h11 => some h11 else none else none else none else none else none
/-! FifthCardModel takes -/
def bX12_takes_5 (g : Zh) (r0 : Nat) (x3 : Int32) (x4 : Int32) (h : Zh) : Option (Nat × Int32 × Int32 × Zh) :=
  if x3 = ((-1 : Int32)) then some (1, (x3, (x4, h))) else if zK g r0 = 12 then (zR h r0 29).bind fun r_2 => if zK g r_2 = 100 then if zin x3 (zL g r_2) then zlet (zI h r_2 x3.toNatClampNeg) fun y5 => (zR h r0 29).bind fun r_6 => if zK g r_6 = 100 then if zin x3 (zL g r_6) then zlet (zsI h r_6 x3.toNatClampNeg x4) fun h9 => (fX12_owns r0 x4 x3 h9).bind fun h10 => (zR h10 r0 31).bind fun r_11 => if zK g r_11 = 100 then if zin x3 (zL g r_11) then zlet (zI h10 r_11 x3.toNatClampNeg) fun y14 => some (0, (y14, (y5, h10))) else none else none else none else none else none else none else none
def kX12_takes_5 (g : Zh)  (e : Nat) (x3 : Int32) (x4 : Int32) (h : Zh) : Option Zh :=
  some h
def fX12_takes (r0 : Nat) (x1 : Int32) (x2 : Int32) (h : Zh) : Option Zh := zlet h fun g =>
  (lp (fun q : Int32 × Int32 × Zh => bX12_takes_5 g r0 q.1 q.2.1 q.2.2) zB (x1, (x2, h))).bind fun q => kX12_takes_5 g q.1 q.2.1 q.2.2.1 q.2.2.2
/-! FifthCardModel goesOnFrom -/
def bX12_goesOnFrom_3 (g : Zh) (r0 : Nat) (x4 : Int32) (h : Zh) : Option (Nat × Int32 × Zh) :=
  if zK g r0 = 12 then if (zI h r0 17) ≤ x4 then some (1, (x4, h)) else (zR h r0 31).bind fun r_2 => (zR h r0 32).bind fun r_3 => if zK g r_3 = 103 then if zin x4 (zL g r_3) then if (zI h r_3 x4.toNatClampNeg) = 0 then if zK g r_2 = 100 then if zin x4 (zL g r_2) then zlet (zsI h r_2 x4.toNatClampNeg ((-2 : Int32))) fun h8 => zlet (x4 + (1 : Int32)) fun y9 => some (0, (y9, h8)) else none else none else if zK g r_2 = 100 then if zin x4 (zL g r_2) then zlet (zsI h r_2 x4.toNatClampNeg ((-1 : Int32))) fun h12 => zlet (x4 + (1 : Int32)) fun y13 => some (0, (y13, h12)) else none else none else none else none else none
def bX12_goesOnFrom_86 (g : Zh) (r0 : Nat) (x2 : Int32) (x3 : Int32) (x6 : Int32) (x4 : Int32) (x7 : Int32) (x8 : Int32) (h : Zh) : Option (Nat × Int32 × Int32 × Int32 × Zh) :=
  if (zI h r0 22) ≤ x7 then some (2, (x4, (x7, (0, h)))) else (zR h r0 21).bind fun r_28 => if zK g r_28 = 100 then if zin x7 (zL g r_28) then zlet (zI h r_28 x7.toNatClampNeg) fun y31 => if y31 = x3 then zlet (x7 + (1 : Int32)) fun y49 => some (0, (x4, (y49, (y31, h)))) else zc2 (fX12_ownerOf r0 y31 h) fun v33 h32 => if v33 = ((-1 : Int32)) then some (1, (x4, (x7, (y31, h32)))) else if v33 < x2 then zlet (x7 + (1 : Int32)) fun y34 => some (0, (x4, (y34, (y31, h32)))) else (zR h32 r0 31).bind fun r_35 => if zK g r_35 = 100 then if zin v33 (zL g r_35) then if (zI h32 r_35 v33.toNatClampNeg) = ((-2 : Int32)) then (zR h32 r0 31).bind fun r_38 => if zK g r_38 = 100 then if zin v33 (zL g r_38) then zlet (zsI h32 r_38 v33.toNatClampNeg x6) fun h41 => (zR h41 r0 30).bind fun r_42 => if zK g r_42 = 100 then if zin x4 (zL g r_42) then zlet (zsI h41 r_42 x4.toNatClampNeg v33) fun h45 => zlet (x4 + (1 : Int32)) fun y46 => zlet (x7 + (1 : Int32)) fun y47 => some (0, (y46, (y47, (y31, h45)))) else none else none else none else none else zlet (x7 + (1 : Int32)) fun y48 => some (0, (x4, (y48, (y31, h32)))) else none else none else none else none
def kX12_goesOnFrom_86 (g : Zh) (r0 : Nat) (x2 : Int32) (x3 : Int32) (x5 : Int32) (x6 : Int32) (e : Nat) (x4 : Int32) (x7 : Int32) (x8 : Int32) (h : Zh) : Option (Nat × Int32 × Int32 × Int32 × Int32 × Zh) :=
  if e = 1 then some (1, (0, (0, (x6, (x8, h))))) else zlet (x5 + (1 : Int32)) fun y50 => some (0, (x4, (y50, (0, (0, h)))))
def bX12_goesOnFrom_61 (g : Zh) (r0 : Nat) (x2 : Int32) (x3 : Int32) (x4 : Int32) (x5 : Int32) (x6 : Int32) (x8 : Int32) (h : Zh) : Option (Nat × Int32 × Int32 × Int32 × Int32 × Zh) :=
  if x4 ≤ x5 then some (2, (x4, (x5, (0, (0, h))))) else (zR h r0 30).bind fun r_23 => if zK g r_23 = 100 then if zin x5 (zL g r_23) then zlet (zI h r_23 x5.toNatClampNeg) fun y26 => (fX12_fitsOf r0 y26 h).bind fun h27 => (lp (fun q : Int32 × Int32 × Int32 × Zh => bX12_goesOnFrom_86 g r0 x2 x3 y26 q.1 q.2.1 q.2.2.1 q.2.2.2) zB (x4, ((0 : Int32), (0, h27)))).bind fun q => kX12_goesOnFrom_86 g r0 x2 x3 x5 y26 q.1 q.2.1 q.2.2.1 q.2.2.2.1 q.2.2.2.2 else none else none
def bX12_goesOnFrom_194 (g : Zh) (r0 : Nat) (x2 : Int32) (x4 : Int32) (x5 : Int32) (h : Zh) : Option (Nat × Int32 × Zh) :=
  if x4 ≤ x5 then some (1, (x5, h)) else if x2 = 0 then (zR h r0 32).bind fun r_52 => (zR h r0 30).bind fun r_53 => if zK g r_53 = 100 then if zin x5 (zL g r_53) then if zK g r_52 = 103 then if zin (zI h r_53 x5.toNatClampNeg) (zL g r_52) then zlet (zsI h r_52 (zI h r_53 x5.toNatClampNeg).toNatClampNeg ((1 : Int32))) fun h58 => zlet (x5 + (1 : Int32)) fun y59 => some (0, (y59, h58)) else none else none else none else none else some (1, (x5, h))
def kX12_goesOnFrom_194 (g : Zh)  (e : Nat) (x5 : Int32) (h : Zh) : Option (Int32 × Zh) :=
  some ((0 : Int32), h)
def kX12_goesOnFrom_61 (g : Zh) (r0 : Nat) (x2 : Int32) (e : Nat) (x4 : Int32) (x5 : Int32) (x6 : Int32) (x8 : Int32) (h : Zh) : Option (Int32 × Zh) :=
  if e = 1 then (fX12_takes r0 x6 x8 h).bind fun h51 => some ((1 : Int32), h51) else (lp (fun q : Int32 × Zh => bX12_goesOnFrom_194 g r0 x2 x4 q.1 q.2) zB ((0 : Int32), h)).bind fun q => kX12_goesOnFrom_194 g q.1 q.2.1 q.2.2
def kX12_goesOnFrom_3 (g : Zh) (r0 : Nat) (x1 : Int32) (x2 : Int32) (x3 : Int32) (e : Nat) (x4 : Int32) (h : Zh) : Option (Int32 × Zh) :=
  if zK g r0 = 12 then (zR h r0 30).bind fun r_15 => if zK g r_15 = 100 then if zin ((0 : Int32)) (zL g r_15) then zlet (zsI h r_15 ((0 : Int32)).toNatClampNeg x1) fun h18 => (zR h18 r0 31).bind fun r_19 => if zK g r_19 = 100 then if zin x1 (zL g r_19) then zlet (zsI h18 r_19 x1.toNatClampNeg ((-1 : Int32))) fun h22 => (lp (fun q : Int32 × Int32 × Int32 × Int32 × Zh => bX12_goesOnFrom_61 g r0 x2 x3 q.1 q.2.1 q.2.2.1 q.2.2.2.1 q.2.2.2.2) zB ((1 : Int32), ((0 : Int32), (0, (0, h22))))).bind fun q => kX12_goesOnFrom_61 g r0 x2 q.1 q.2.1 q.2.2.1 q.2.2.2.1 q.2.2.2.2.1 q.2.2.2.2.2 else none else none else none else none else none
def fX12_goesOnFrom (r0 : Nat) (x1 : Int32) (x2 : Int32) (x3 : Int32) (h : Zh) : Option (Int32 × Zh) := zlet h fun g =>
  (lp (fun q : Int32 × Zh => bX12_goesOnFrom_3 g r0 q.1 q.2) zB ((0 : Int32), h)).bind fun q => kX12_goesOnFrom_3 g r0 x1 x2 x3 q.1 q.2.1 q.2.2
/-! FifthCardModel pairsNow -/
def bX12_pairsNow_8 (g : Zh) (r0 : Nat) (x2 : Int32) (h : Zh) : Option (Nat × Int32 × Zh) :=
  if (zI h r0 17) ≤ x2 then some (1, (x2, h)) else (zR h r0 29).bind fun r_3 => if zK g r_3 = 100 then if zin x2 (zL g r_3) then zlet (zsI h r_3 x2.toNatClampNeg ((-1 : Int32))) fun h6 => (zR h6 r0 32).bind fun r_7 => if zK g r_7 = 103 then if zin x2 (zL g r_7) then zlet (zsI h6 r_7 x2.toNatClampNeg ((0 : Int32))) fun h10 => zlet (x2 + (1 : Int32)) fun y11 => some (0, (y11, h10)) else none else none else none else none
def bX12_pairsNow_38 (g : Zh) (r0 : Nat) (x1 : Int32) (x2 : Int32) (h : Zh) : Option (Nat × Int32 × Int32 × Zh) :=
  if (zI h r0 17) ≤ x2 then some (1, (x1, (x2, h))) else zc2 (fX12_goesOnFrom r0 x2 ((0 : Int32)) ((-1 : Int32)) h) fun v13 h12 => if v13 = 0 then zlet (x1 + ((0 : Int32))) fun y14 => zlet (x2 + (1 : Int32)) fun y15 => some (0, (y14, (y15, h12))) else zlet (x1 + ((1 : Int32))) fun y16 => zlet (x2 + (1 : Int32)) fun y17 => some (0, (y16, (y17, h12)))
def kX12_pairsNow_38 (g : Zh)  (e : Nat) (x1 : Int32) (x2 : Int32) (h : Zh) : Option (Int32 × Zh) :=
  some (x1, h)
def kX12_pairsNow_8 (g : Zh) (r0 : Nat) (x1 : Int32) (e : Nat) (x2 : Int32) (h : Zh) : Option (Int32 × Zh) :=
  (lp (fun q : Int32 × Int32 × Zh => bX12_pairsNow_38 g r0 q.1 q.2.1 q.2.2) zB (x1, ((0 : Int32), h))).bind fun q => kX12_pairsNow_38 g q.1 q.2.1 q.2.2.1 q.2.2.2
def fX12_pairsNow (r0 : Nat) (h : Zh) : Option (Int32 × Zh) := zlet h fun g =>
  if zK g r0 = 12 then (fX12_clearOwners r0 h).bind fun h2 => (lp (fun q : Int32 × Zh => bX12_pairsNow_8 g r0 q.1 q.2) zB ((0 : Int32), h2)).bind fun q => kX12_pairsNow_8 g r0 ((0 : Int32)) q.1 q.2.1 q.2.2 else none
/-! FifthCardModel settles -/
def jX12_settles_68 (g : Zh) (r0 : Nat) (x1 : Int32) (x2 : Int32) (h : Zh) : Option (Int32 × Zh) :=
  (zR h r0 29).bind fun r_9 => if zK g r_9 = 100 then if zin x1 (zL g r_9) then zlet (zsI h r_9 x1.toNatClampNeg x2) fun h12 => (fX12_owns r0 x2 x1 h12).bind fun h13 => some ((1 : Int32), h13) else none else none
def jX12_settles_35 (g : Zh) (r0 : Nat) (x1 : Int32) (x2 : Int32) (x3 : Int32) (x4 : Int32) (h : Zh) : Option (Int32 × Zh) :=
  (fX12_owns r0 x3 ((-1 : Int32)) h).bind fun h8 => if x4 = ((-1 : Int32)) then jX12_settles_68 g r0 x1 x2 h8 else zc2 (fX12_goesOnFrom r0 x4 (x1 + ((1 : Int32))) x2 h8) fun v15 h14 => if v15 = 0 then (fX12_owns r0 x3 x1 h14).bind fun h16 => some ((0 : Int32), h16) else jX12_settles_68 g r0 x1 x2 h14
def fX12_settles (r0 : Nat) (x1 : Int32) (x2 : Int32) (h : Zh) : Option (Int32 × Zh) := zlet h fun g =>
  if zK g r0 = 12 then (zR h r0 29).bind fun r_2 => if zK g r_2 = 100 then if zin x1 (zL g r_2) then zlet (zI h r_2 x1.toNatClampNeg) fun y5 => if x2 = y5 then some ((1 : Int32), h) else zc2 (fX12_ownerOf r0 x2 h) fun v7 h6 => if v7 = ((-1 : Int32)) then jX12_settles_35 g r0 x1 x2 y5 v7 h6 else if x1 ≤ v7 then jX12_settles_35 g r0 x1 x2 y5 v7 h6 else some ((0 : Int32), h6) else none else none else none
/-! FifthCardModel knowsTable -/
def bX12_knowsTable_62 (g : Zh) (r0 : Nat) (x2 : Int32) (x3 : Int32) (h : Zh) : Option (Nat × Int32 × Zh) :=
  if x2 ≤ x3 then some (1, (x3, h)) else (zR h r0 34).bind fun r_10 => (zR h r0 21).bind fun r_11 => if zK g r_11 = 100 then if zin x3 (zL g r_11) then if zK g r_10 = 100 then if zin x3 (zL g r_10) then zlet (zsI h r_10 x3.toNatClampNeg (zI h r_11 x3.toNatClampNeg)) fun h16 => zlet (x3 + (1 : Int32)) fun y17 => some (0, (y17, h16)) else none else none else none else none
def bX12_knowsTable_87 (g : Zh) (r0 : Nat) (x1 : Int32) (x3 : Int32) (h : Zh) : Option (Nat × Int32 × Zh) :=
  (zR h r0 34).bind fun r_18 => if zK g r_18 = 100 then if zin x3 (zL g r_18) then zc2 (fX12_settles r0 x1 (zI h r_18 x3.toNatClampNeg) h) fun v22 h21 => if v22 = 0 then zlet (x3 + (1 : Int32)) fun y23 => some (0, (y23, h21)) else some (1, (x3, h21)) else none else none
def kX12_knowsTable_87 (g : Zh) (r0 : Nat) (x1 : Int32) (e : Nat) (x3 : Int32) (h : Zh) : Option (Nat × Int32 × Zh) :=
  (zR h r0 33).bind fun r_24 => (zR h r0 29).bind fun r_25 => if zK g r_25 = 100 then if zin x1 (zL g r_25) then if zK g r_24 = 100 then if zin x1 (zL g r_24) then zlet (zsI h r_24 x1.toNatClampNeg (zI h r_25 x1.toNatClampNeg)) fun h30 => zlet (x1 + (1 : Int32)) fun y31 => some (0, (y31, h30)) else none else none else none else none
def kX12_knowsTable_62 (g : Zh) (r0 : Nat) (x1 : Int32) (e : Nat) (x3 : Int32) (h : Zh) : Option (Nat × Int32 × Zh) :=
  (lp (fun q : Int32 × Zh => bX12_knowsTable_87 g r0 x1 q.1 q.2) zB ((0 : Int32), h)).bind fun q => kX12_knowsTable_87 g r0 x1 q.1 q.2.1 q.2.2
def bX12_knowsTable_35 (g : Zh) (r0 : Nat) (x1 : Int32) (h : Zh) : Option (Nat × Int32 × Zh) :=
  if (zI h r0 17) ≤ x1 then some (1, (x1, h)) else if (zI h r0 36) = 0 then some (1, (x1, h)) else (fX12_fitsOf r0 x1 h).bind fun h8 => zlet (zI h8 r0 22) fun y9 => (lp (fun q : Int32 × Zh => bX12_knowsTable_62 g r0 y9 q.1 q.2) zB ((0 : Int32), h8)).bind fun q => kX12_knowsTable_62 g r0 x1 q.1 q.2.1 q.2.2
def kX12_knowsTable_35 (g : Zh)  (e : Nat) (x1 : Int32) (h : Zh) : Option Zh :=
  some h
def jX12_knowsTable_30 (g : Zh) (r0 : Nat) (t0 : Int32) (t1 : Nat) (h : Zh) : Option Zh :=
  if zK g t1 = 12 then if t0 = 0 ∨ t0 = 1 then zlet (zsI h t1 36 t0) fun h6 => (lp (fun q : Int32 × Zh => bX12_knowsTable_35 g r0 q.1 q.2) zB ((0 : Int32), h6)).bind fun q => kX12_knowsTable_35 g q.1 q.2.1 q.2.2 else none else none
def fX12_knowsTable (r0 : Nat) (h : Zh) : Option Zh := zlet h fun g =>
  if zK g r0 = 12 then if (zI h r0 35) = 0 then zlet (zsI h r0 35 ((1 : Int32))) fun h2 => zc2 (fX12_pairsNow r0 h2) fun v4 h3 => if v4 = (zI h3 r0 17) then jX12_knowsTable_30 g r0 ((1 : Int32)) r0 h3 else jX12_knowsTable_30 g r0 ((0 : Int32)) r0 h3 else some h else none
/-! FifthCardModel laysNow -/
def fX12_laysNow (r0 : Nat) (x1 : Int32) (x2 : Int32) (h : Zh) : Option (Int32 × Zh) := zlet h fun g =>
  if zK g r0 = 12 then (zR h r0 3).bind fun r_2 => if zK g r_2 = 11 then (zR h r_2 10).bind fun r_4 => if zK g r_4 = 100 then if zin x1 (zL g r_4) then zlet (zI h r_4 x1.toNatClampNeg) fun y7 => if y7 = ((20 : Int32)) then zc2 (fX12_laysSuit r0 x2 h) fun v15 h14 => some (v15, h14) else if y7 = ((21 : Int32)) then if (zI h r0 17) ≤ ((300 : Int32)) then (fX12_knowsTable r0 h).bind fun h8 => if (zI h8 r0 36) = 0 then some ((-2 : Int32), h8) else (zR h8 r0 33).bind fun r_9 => if zK g r_9 = 100 then if zin x2 (zL g r_9) then some (zI h8 r_9 x2.toNatClampNeg, h8) else none else none else some ((-2 : Int32), h) else zc2 (fX12_laysWords r0 y7 x2 h) fun v13 h12 => some (v13, h12) else none else none else none else none
theorem dX12_slot_0 : decode cX12_slot 0 = .ok (.iload_n 1, 1) := by decide +kernel
theorem dX12_slot_1 : decode cX12_slot 1 = .ok (.ldc_w 454, 3) := by decide +kernel
theorem dX12_slot_4 : decode cX12_slot 4 = .ok (.imul, 1) := by decide +kernel
theorem dX12_slot_5 : decode cX12_slot 5 = .ok (.bipush 17, 2) := by decide +kernel
theorem dX12_slot_7 : decode cX12_slot 7 = .ok (.iushr, 1) := by decide +kernel
theorem dX12_slot_8 : decode cX12_slot 8 = .ok (.istore_n 2, 1) := by decide +kernel
theorem dX12_slot_9 : decode cX12_slot 9 = .ok (.aload_n 0, 1) := by decide +kernel
theorem dX12_slot_10 : decode cX12_slot 10 = .ok (.getfield 43, 3) := by decide +kernel
theorem dX12_slot_13 : decode cX12_slot 13 = .ok (.iload_n 2, 1) := by decide +kernel
theorem dX12_slot_14 : decode cX12_slot 14 = .ok (.iaload, 1) := by decide +kernel
theorem dX12_slot_15 : decode cX12_slot 15 = .ok (.iconst (-1), 1) := by decide +kernel
theorem dX12_slot_16 : decode cX12_slot 16 = .ok (.if_icmp .eq 24, 3) := by decide +kernel
theorem dX12_slot_19 : decode cX12_slot 19 = .ok (.aload_n 0, 1) := by decide +kernel
theorem dX12_slot_20 : decode cX12_slot 20 = .ok (.getfield 43, 3) := by decide +kernel
theorem dX12_slot_23 : decode cX12_slot 23 = .ok (.iload_n 2, 1) := by decide +kernel
theorem dX12_slot_24 : decode cX12_slot 24 = .ok (.iaload, 1) := by decide +kernel
theorem dX12_slot_25 : decode cX12_slot 25 = .ok (.iload_n 1, 1) := by decide +kernel
theorem dX12_slot_26 : decode cX12_slot 26 = .ok (.if_icmp .eq 14, 3) := by decide +kernel
theorem dX12_slot_29 : decode cX12_slot 29 = .ok (.iload_n 2, 1) := by decide +kernel
theorem dX12_slot_30 : decode cX12_slot 30 = .ok (.iconst 1, 1) := by decide +kernel
theorem dX12_slot_31 : decode cX12_slot 31 = .ok (.iadd, 1) := by decide +kernel
theorem dX12_slot_32 : decode cX12_slot 32 = .ok (.sipush 32767, 3) := by decide +kernel
theorem dX12_slot_35 : decode cX12_slot 35 = .ok (.iand, 1) := by decide +kernel
theorem dX12_slot_36 : decode cX12_slot 36 = .ok (.istore_n 2, 1) := by decide +kernel
theorem dX12_slot_37 : decode cX12_slot 37 = .ok (.goto (-28), 3) := by decide +kernel
theorem dX12_slot_40 : decode cX12_slot 40 = .ok (.iload_n 2, 1) := by decide +kernel
theorem dX12_slot_41 : decode cX12_slot 41 = .ok (.ireturn, 1) := by decide +kernel
theorem dX12_ownerOf_0 : decode cX12_ownerOf 0 = .ok (.aload_n 0, 1) := by decide +kernel
theorem dX12_ownerOf_1 : decode cX12_ownerOf 1 = .ok (.iload_n 1, 1) := by decide +kernel
theorem dX12_ownerOf_2 : decode cX12_ownerOf 2 = .ok (.invokevirtual 455, 3) := by decide +kernel
theorem dX12_ownerOf_5 : decode cX12_ownerOf 5 = .ok (.istore_n 2, 1) := by decide +kernel
theorem dX12_ownerOf_6 : decode cX12_ownerOf 6 = .ok (.aload_n 0, 1) := by decide +kernel
theorem dX12_ownerOf_7 : decode cX12_ownerOf 7 = .ok (.getfield 43, 3) := by decide +kernel
theorem dX12_ownerOf_10 : decode cX12_ownerOf 10 = .ok (.iload_n 2, 1) := by decide +kernel
theorem dX12_ownerOf_11 : decode cX12_ownerOf 11 = .ok (.iaload, 1) := by decide +kernel
theorem dX12_ownerOf_12 : decode cX12_ownerOf 12 = .ok (.iconst (-1), 1) := by decide +kernel
theorem dX12_ownerOf_13 : decode cX12_ownerOf 13 = .ok (.if_icmp .ne 7, 3) := by decide +kernel
theorem dX12_ownerOf_16 : decode cX12_ownerOf 16 = .ok (.iconst (-1), 1) := by decide +kernel
theorem dX12_ownerOf_17 : decode cX12_ownerOf 17 = .ok (.goto 9, 3) := by decide +kernel
theorem dX12_ownerOf_20 : decode cX12_ownerOf 20 = .ok (.aload_n 0, 1) := by decide +kernel
theorem dX12_ownerOf_21 : decode cX12_ownerOf 21 = .ok (.getfield 46, 3) := by decide +kernel
theorem dX12_ownerOf_24 : decode cX12_ownerOf 24 = .ok (.iload_n 2, 1) := by decide +kernel
theorem dX12_ownerOf_25 : decode cX12_ownerOf 25 = .ok (.iaload, 1) := by decide +kernel
theorem dX12_ownerOf_26 : decode cX12_ownerOf 26 = .ok (.ireturn, 1) := by decide +kernel
theorem dX12_owns_0 : decode cX12_owns 0 = .ok (.aload_n 0, 1) := by decide +kernel
theorem dX12_owns_1 : decode cX12_owns 1 = .ok (.iload_n 1, 1) := by decide +kernel
theorem dX12_owns_2 : decode cX12_owns 2 = .ok (.invokevirtual 455, 3) := by decide +kernel
theorem dX12_owns_5 : decode cX12_owns 5 = .ok (.istore_n 3, 1) := by decide +kernel
theorem dX12_owns_6 : decode cX12_owns 6 = .ok (.aload_n 0, 1) := by decide +kernel
theorem dX12_owns_7 : decode cX12_owns 7 = .ok (.getfield 43, 3) := by decide +kernel
theorem dX12_owns_10 : decode cX12_owns 10 = .ok (.iload_n 3, 1) := by decide +kernel
theorem dX12_owns_11 : decode cX12_owns 11 = .ok (.iload_n 1, 1) := by decide +kernel
theorem dX12_owns_12 : decode cX12_owns 12 = .ok (.iastore, 1) := by decide +kernel
theorem dX12_owns_13 : decode cX12_owns 13 = .ok (.aload_n 0, 1) := by decide +kernel
theorem dX12_owns_14 : decode cX12_owns 14 = .ok (.getfield 46, 3) := by decide +kernel
theorem dX12_owns_17 : decode cX12_owns 17 = .ok (.iload_n 3, 1) := by decide +kernel
theorem dX12_owns_18 : decode cX12_owns 18 = .ok (.iload_n 2, 1) := by decide +kernel
theorem dX12_owns_19 : decode cX12_owns 19 = .ok (.iastore, 1) := by decide +kernel
theorem dX12_owns_20 : decode cX12_owns 20 = .ok (.return_, 1) := by decide +kernel
theorem dX12_takes_0 : decode cX12_takes 0 = .ok (.iload_n 1, 1) := by decide +kernel
theorem dX12_takes_1 : decode cX12_takes 1 = .ok (.istore_n 3, 1) := by decide +kernel
theorem dX12_takes_2 : decode cX12_takes 2 = .ok (.iload_n 2, 1) := by decide +kernel
theorem dX12_takes_3 : decode cX12_takes 3 = .ok (.istore 4, 2) := by decide +kernel
theorem dX12_takes_5 : decode cX12_takes 5 = .ok (.iload_n 3, 1) := by decide +kernel
theorem dX12_takes_6 : decode cX12_takes 6 = .ok (.iconst (-1), 1) := by decide +kernel
theorem dX12_takes_7 : decode cX12_takes 7 = .ok (.if_icmp .eq 40, 3) := by decide +kernel
theorem dX12_takes_10 : decode cX12_takes 10 = .ok (.aload_n 0, 1) := by decide +kernel
theorem dX12_takes_11 : decode cX12_takes 11 = .ok (.getfield 49, 3) := by decide +kernel
theorem dX12_takes_14 : decode cX12_takes 14 = .ok (.iload_n 3, 1) := by decide +kernel
theorem dX12_takes_15 : decode cX12_takes 15 = .ok (.iaload, 1) := by decide +kernel
theorem dX12_takes_16 : decode cX12_takes 16 = .ok (.istore 5, 2) := by decide +kernel
theorem dX12_takes_18 : decode cX12_takes 18 = .ok (.aload_n 0, 1) := by decide +kernel
theorem dX12_takes_19 : decode cX12_takes 19 = .ok (.getfield 49, 3) := by decide +kernel
theorem dX12_takes_22 : decode cX12_takes 22 = .ok (.iload_n 3, 1) := by decide +kernel
theorem dX12_takes_23 : decode cX12_takes 23 = .ok (.iload 4, 2) := by decide +kernel
theorem dX12_takes_25 : decode cX12_takes 25 = .ok (.iastore, 1) := by decide +kernel
theorem dX12_takes_26 : decode cX12_takes 26 = .ok (.aload_n 0, 1) := by decide +kernel
theorem dX12_takes_27 : decode cX12_takes 27 = .ok (.iload 4, 2) := by decide +kernel
theorem dX12_takes_29 : decode cX12_takes 29 = .ok (.iload_n 3, 1) := by decide +kernel
theorem dX12_takes_30 : decode cX12_takes 30 = .ok (.invokevirtual 461, 3) := by decide +kernel
theorem dX12_takes_33 : decode cX12_takes 33 = .ok (.iload 5, 2) := by decide +kernel
theorem dX12_takes_35 : decode cX12_takes 35 = .ok (.istore 4, 2) := by decide +kernel
theorem dX12_takes_37 : decode cX12_takes 37 = .ok (.aload_n 0, 1) := by decide +kernel
theorem dX12_takes_38 : decode cX12_takes 38 = .ok (.getfield 55, 3) := by decide +kernel
theorem dX12_takes_41 : decode cX12_takes 41 = .ok (.iload_n 3, 1) := by decide +kernel
theorem dX12_takes_42 : decode cX12_takes 42 = .ok (.iaload, 1) := by decide +kernel
theorem dX12_takes_43 : decode cX12_takes 43 = .ok (.istore_n 3, 1) := by decide +kernel
theorem dX12_takes_44 : decode cX12_takes 44 = .ok (.goto (-39), 3) := by decide +kernel
theorem dX12_takes_47 : decode cX12_takes 47 = .ok (.return_, 1) := by decide +kernel
theorem dX12_goesOnFrom_0 : decode cX12_goesOnFrom 0 = .ok (.iconst 0, 1) := by decide +kernel
theorem dX12_goesOnFrom_1 : decode cX12_goesOnFrom 1 = .ok (.istore 4, 2) := by decide +kernel
theorem dX12_goesOnFrom_3 : decode cX12_goesOnFrom 3 = .ok (.iload 4, 2) := by decide +kernel
theorem dX12_goesOnFrom_5 : decode cX12_goesOnFrom 5 = .ok (.aload_n 0, 1) := by decide +kernel
theorem dX12_goesOnFrom_6 : decode cX12_goesOnFrom 6 = .ok (.getfield 356, 3) := by decide +kernel
theorem dX12_goesOnFrom_9 : decode cX12_goesOnFrom 9 = .ok (.if_icmp .ge 32, 3) := by decide +kernel
theorem dX12_goesOnFrom_12 : decode cX12_goesOnFrom 12 = .ok (.aload_n 0, 1) := by decide +kernel
theorem dX12_goesOnFrom_13 : decode cX12_goesOnFrom 13 = .ok (.getfield 55, 3) := by decide +kernel
theorem dX12_goesOnFrom_16 : decode cX12_goesOnFrom 16 = .ok (.iload 4, 2) := by decide +kernel
theorem dX12_goesOnFrom_18 : decode cX12_goesOnFrom 18 = .ok (.aload_n 0, 1) := by decide +kernel
theorem dX12_goesOnFrom_19 : decode cX12_goesOnFrom 19 = .ok (.getfield 58, 3) := by decide +kernel
theorem dX12_goesOnFrom_22 : decode cX12_goesOnFrom 22 = .ok (.iload 4, 2) := by decide +kernel
theorem dX12_goesOnFrom_24 : decode cX12_goesOnFrom 24 = .ok (.baload, 1) := by decide +kernel
theorem dX12_goesOnFrom_25 : decode cX12_goesOnFrom 25 = .ok (.ifCond .eq 7, 3) := by decide +kernel
theorem dX12_goesOnFrom_28 : decode cX12_goesOnFrom 28 = .ok (.iconst (-1), 1) := by decide +kernel
theorem dX12_goesOnFrom_29 : decode cX12_goesOnFrom 29 = .ok (.goto 5, 3) := by decide +kernel
theorem dX12_goesOnFrom_32 : decode cX12_goesOnFrom 32 = .ok (.bipush (-2), 2) := by decide +kernel
theorem dX12_goesOnFrom_34 : decode cX12_goesOnFrom 34 = .ok (.iastore, 1) := by decide +kernel
theorem dX12_goesOnFrom_35 : decode cX12_goesOnFrom 35 = .ok (.iinc 4 1, 3) := by decide +kernel
theorem dX12_goesOnFrom_38 : decode cX12_goesOnFrom 38 = .ok (.goto (-35), 3) := by decide +kernel
theorem dX12_goesOnFrom_41 : decode cX12_goesOnFrom 41 = .ok (.iconst 1, 1) := by decide +kernel
theorem dX12_goesOnFrom_42 : decode cX12_goesOnFrom 42 = .ok (.istore 4, 2) := by decide +kernel
theorem dX12_goesOnFrom_44 : decode cX12_goesOnFrom 44 = .ok (.aload_n 0, 1) := by decide +kernel
theorem dX12_goesOnFrom_45 : decode cX12_goesOnFrom 45 = .ok (.getfield 52, 3) := by decide +kernel
theorem dX12_goesOnFrom_48 : decode cX12_goesOnFrom 48 = .ok (.iconst 0, 1) := by decide +kernel
theorem dX12_goesOnFrom_49 : decode cX12_goesOnFrom 49 = .ok (.iload_n 1, 1) := by decide +kernel
theorem dX12_goesOnFrom_50 : decode cX12_goesOnFrom 50 = .ok (.iastore, 1) := by decide +kernel
theorem dX12_goesOnFrom_51 : decode cX12_goesOnFrom 51 = .ok (.aload_n 0, 1) := by decide +kernel
theorem dX12_goesOnFrom_52 : decode cX12_goesOnFrom 52 = .ok (.getfield 55, 3) := by decide +kernel
theorem dX12_goesOnFrom_55 : decode cX12_goesOnFrom 55 = .ok (.iload_n 1, 1) := by decide +kernel
theorem dX12_goesOnFrom_56 : decode cX12_goesOnFrom 56 = .ok (.iconst (-1), 1) := by decide +kernel
theorem dX12_goesOnFrom_57 : decode cX12_goesOnFrom 57 = .ok (.iastore, 1) := by decide +kernel
theorem dX12_goesOnFrom_58 : decode cX12_goesOnFrom 58 = .ok (.iconst 0, 1) := by decide +kernel
theorem dX12_goesOnFrom_59 : decode cX12_goesOnFrom 59 = .ok (.istore 5, 2) := by decide +kernel
theorem dX12_goesOnFrom_61 : decode cX12_goesOnFrom 61 = .ok (.iload 5, 2) := by decide +kernel
theorem dX12_goesOnFrom_63 : decode cX12_goesOnFrom 63 = .ok (.iload 4, 2) := by decide +kernel
theorem dX12_goesOnFrom_65 : decode cX12_goesOnFrom 65 = .ok (.if_icmp .ge 126, 3) := by decide +kernel
theorem dX12_goesOnFrom_68 : decode cX12_goesOnFrom 68 = .ok (.aload_n 0, 1) := by decide +kernel
theorem dX12_goesOnFrom_69 : decode cX12_goesOnFrom 69 = .ok (.getfield 52, 3) := by decide +kernel
theorem dX12_goesOnFrom_72 : decode cX12_goesOnFrom 72 = .ok (.iload 5, 2) := by decide +kernel
theorem dX12_goesOnFrom_74 : decode cX12_goesOnFrom 74 = .ok (.iaload, 1) := by decide +kernel
theorem dX12_goesOnFrom_75 : decode cX12_goesOnFrom 75 = .ok (.istore 6, 2) := by decide +kernel
theorem dX12_goesOnFrom_77 : decode cX12_goesOnFrom 77 = .ok (.aload_n 0, 1) := by decide +kernel
theorem dX12_goesOnFrom_78 : decode cX12_goesOnFrom 78 = .ok (.iload 6, 2) := by decide +kernel
theorem dX12_goesOnFrom_80 : decode cX12_goesOnFrom 80 = .ok (.invokevirtual 479, 3) := by decide +kernel
theorem dX12_goesOnFrom_83 : decode cX12_goesOnFrom 83 = .ok (.iconst 0, 1) := by decide +kernel
theorem dX12_goesOnFrom_84 : decode cX12_goesOnFrom 84 = .ok (.istore 7, 2) := by decide +kernel
theorem dX12_goesOnFrom_86 : decode cX12_goesOnFrom 86 = .ok (.iload 7, 2) := by decide +kernel
theorem dX12_goesOnFrom_88 : decode cX12_goesOnFrom 88 = .ok (.aload_n 0, 1) := by decide +kernel
theorem dX12_goesOnFrom_89 : decode cX12_goesOnFrom 89 = .ok (.getfield 400, 3) := by decide +kernel
theorem dX12_goesOnFrom_92 : decode cX12_goesOnFrom 92 = .ok (.if_icmp .ge 93, 3) := by decide +kernel
theorem dX12_goesOnFrom_95 : decode cX12_goesOnFrom 95 = .ok (.aload_n 0, 1) := by decide +kernel
theorem dX12_goesOnFrom_96 : decode cX12_goesOnFrom 96 = .ok (.getfield 30, 3) := by decide +kernel
theorem dX12_goesOnFrom_99 : decode cX12_goesOnFrom 99 = .ok (.iload 7, 2) := by decide +kernel
theorem dX12_goesOnFrom_101 : decode cX12_goesOnFrom 101 = .ok (.iaload, 1) := by decide +kernel
theorem dX12_goesOnFrom_102 : decode cX12_goesOnFrom 102 = .ok (.istore 8, 2) := by decide +kernel
theorem dX12_goesOnFrom_104 : decode cX12_goesOnFrom 104 = .ok (.iload 8, 2) := by decide +kernel
theorem dX12_goesOnFrom_106 : decode cX12_goesOnFrom 106 = .ok (.iload_n 3, 1) := by decide +kernel
theorem dX12_goesOnFrom_107 : decode cX12_goesOnFrom 107 = .ok (.if_icmp .ne 6, 3) := by decide +kernel
theorem dX12_goesOnFrom_110 : decode cX12_goesOnFrom 110 = .ok (.goto 69, 3) := by decide +kernel
theorem dX12_goesOnFrom_113 : decode cX12_goesOnFrom 113 = .ok (.aload_n 0, 1) := by decide +kernel
theorem dX12_goesOnFrom_114 : decode cX12_goesOnFrom 114 = .ok (.iload 8, 2) := by decide +kernel
theorem dX12_goesOnFrom_116 : decode cX12_goesOnFrom 116 = .ok (.invokevirtual 470, 3) := by decide +kernel
theorem dX12_goesOnFrom_119 : decode cX12_goesOnFrom 119 = .ok (.istore 9, 2) := by decide +kernel
theorem dX12_goesOnFrom_121 : decode cX12_goesOnFrom 121 = .ok (.iload 9, 2) := by decide +kernel
theorem dX12_goesOnFrom_123 : decode cX12_goesOnFrom 123 = .ok (.iconst (-1), 1) := by decide +kernel
theorem dX12_goesOnFrom_124 : decode cX12_goesOnFrom 124 = .ok (.if_icmp .ne 13, 3) := by decide +kernel
theorem dX12_goesOnFrom_127 : decode cX12_goesOnFrom 127 = .ok (.aload_n 0, 1) := by decide +kernel
theorem dX12_goesOnFrom_128 : decode cX12_goesOnFrom 128 = .ok (.iload 6, 2) := by decide +kernel
theorem dX12_goesOnFrom_130 : decode cX12_goesOnFrom 130 = .ok (.iload 8, 2) := by decide +kernel
theorem dX12_goesOnFrom_132 : decode cX12_goesOnFrom 132 = .ok (.invokevirtual 482, 3) := by decide +kernel
theorem dX12_goesOnFrom_135 : decode cX12_goesOnFrom 135 = .ok (.iconst 1, 1) := by decide +kernel
theorem dX12_goesOnFrom_136 : decode cX12_goesOnFrom 136 = .ok (.ireturn, 1) := by decide +kernel
theorem dX12_goesOnFrom_137 : decode cX12_goesOnFrom 137 = .ok (.iload 9, 2) := by decide +kernel
theorem dX12_goesOnFrom_139 : decode cX12_goesOnFrom 139 = .ok (.iload_n 2, 1) := by decide +kernel
theorem dX12_goesOnFrom_140 : decode cX12_goesOnFrom 140 = .ok (.if_icmp .lt 39, 3) := by decide +kernel
theorem dX12_goesOnFrom_143 : decode cX12_goesOnFrom 143 = .ok (.aload_n 0, 1) := by decide +kernel
theorem dX12_goesOnFrom_144 : decode cX12_goesOnFrom 144 = .ok (.getfield 55, 3) := by decide +kernel
theorem dX12_goesOnFrom_147 : decode cX12_goesOnFrom 147 = .ok (.iload 9, 2) := by decide +kernel
theorem dX12_goesOnFrom_149 : decode cX12_goesOnFrom 149 = .ok (.iaload, 1) := by decide +kernel
theorem dX12_goesOnFrom_150 : decode cX12_goesOnFrom 150 = .ok (.bipush (-2), 2) := by decide +kernel
theorem dX12_goesOnFrom_152 : decode cX12_goesOnFrom 152 = .ok (.if_icmp .eq 6, 3) := by decide +kernel
theorem dX12_goesOnFrom_155 : decode cX12_goesOnFrom 155 = .ok (.goto 24, 3) := by decide +kernel
theorem dX12_goesOnFrom_158 : decode cX12_goesOnFrom 158 = .ok (.aload_n 0, 1) := by decide +kernel
theorem dX12_goesOnFrom_159 : decode cX12_goesOnFrom 159 = .ok (.getfield 55, 3) := by decide +kernel
theorem dX12_goesOnFrom_162 : decode cX12_goesOnFrom 162 = .ok (.iload 9, 2) := by decide +kernel
theorem dX12_goesOnFrom_164 : decode cX12_goesOnFrom 164 = .ok (.iload 6, 2) := by decide +kernel
theorem dX12_goesOnFrom_166 : decode cX12_goesOnFrom 166 = .ok (.iastore, 1) := by decide +kernel
theorem dX12_goesOnFrom_167 : decode cX12_goesOnFrom 167 = .ok (.aload_n 0, 1) := by decide +kernel
theorem dX12_goesOnFrom_168 : decode cX12_goesOnFrom 168 = .ok (.getfield 52, 3) := by decide +kernel
theorem dX12_goesOnFrom_171 : decode cX12_goesOnFrom 171 = .ok (.iload 4, 2) := by decide +kernel
theorem dX12_goesOnFrom_173 : decode cX12_goesOnFrom 173 = .ok (.iload 9, 2) := by decide +kernel
theorem dX12_goesOnFrom_175 : decode cX12_goesOnFrom 175 = .ok (.iastore, 1) := by decide +kernel
theorem dX12_goesOnFrom_176 : decode cX12_goesOnFrom 176 = .ok (.iinc 4 1, 3) := by decide +kernel
theorem dX12_goesOnFrom_179 : decode cX12_goesOnFrom 179 = .ok (.iinc 7 1, 3) := by decide +kernel
theorem dX12_goesOnFrom_182 : decode cX12_goesOnFrom 182 = .ok (.goto (-96), 3) := by decide +kernel
theorem dX12_goesOnFrom_185 : decode cX12_goesOnFrom 185 = .ok (.iinc 5 1, 3) := by decide +kernel
theorem dX12_goesOnFrom_188 : decode cX12_goesOnFrom 188 = .ok (.goto (-127), 3) := by decide +kernel
theorem dX12_goesOnFrom_191 : decode cX12_goesOnFrom 191 = .ok (.iconst 0, 1) := by decide +kernel
theorem dX12_goesOnFrom_192 : decode cX12_goesOnFrom 192 = .ok (.istore 5, 2) := by decide +kernel
theorem dX12_goesOnFrom_194 : decode cX12_goesOnFrom 194 = .ok (.iload 5, 2) := by decide +kernel
theorem dX12_goesOnFrom_196 : decode cX12_goesOnFrom 196 = .ok (.iload 4, 2) := by decide +kernel
theorem dX12_goesOnFrom_198 : decode cX12_goesOnFrom 198 = .ok (.if_icmp .ge 26, 3) := by decide +kernel
theorem dX12_goesOnFrom_201 : decode cX12_goesOnFrom 201 = .ok (.iload_n 2, 1) := by decide +kernel
theorem dX12_goesOnFrom_202 : decode cX12_goesOnFrom 202 = .ok (.ifCond .ne 22, 3) := by decide +kernel
theorem dX12_goesOnFrom_205 : decode cX12_goesOnFrom 205 = .ok (.aload_n 0, 1) := by decide +kernel
theorem dX12_goesOnFrom_206 : decode cX12_goesOnFrom 206 = .ok (.getfield 58, 3) := by decide +kernel
theorem dX12_goesOnFrom_209 : decode cX12_goesOnFrom 209 = .ok (.aload_n 0, 1) := by decide +kernel
theorem dX12_goesOnFrom_210 : decode cX12_goesOnFrom 210 = .ok (.getfield 52, 3) := by decide +kernel
theorem dX12_goesOnFrom_213 : decode cX12_goesOnFrom 213 = .ok (.iload 5, 2) := by decide +kernel
theorem dX12_goesOnFrom_215 : decode cX12_goesOnFrom 215 = .ok (.iaload, 1) := by decide +kernel
theorem dX12_goesOnFrom_216 : decode cX12_goesOnFrom 216 = .ok (.iconst 1, 1) := by decide +kernel
theorem dX12_goesOnFrom_217 : decode cX12_goesOnFrom 217 = .ok (.bastore, 1) := by decide +kernel
theorem dX12_goesOnFrom_218 : decode cX12_goesOnFrom 218 = .ok (.iinc 5 1, 3) := by decide +kernel
theorem dX12_goesOnFrom_221 : decode cX12_goesOnFrom 221 = .ok (.goto (-27), 3) := by decide +kernel
theorem dX12_goesOnFrom_224 : decode cX12_goesOnFrom 224 = .ok (.iconst 0, 1) := by decide +kernel
theorem dX12_goesOnFrom_225 : decode cX12_goesOnFrom 225 = .ok (.ireturn, 1) := by decide +kernel
theorem dX12_pairsNow_0 : decode cX12_pairsNow 0 = .ok (.aload_n 0, 1) := by decide +kernel
theorem dX12_pairsNow_1 : decode cX12_pairsNow 1 = .ok (.invokevirtual 458, 3) := by decide +kernel
theorem dX12_pairsNow_4 : decode cX12_pairsNow 4 = .ok (.iconst 0, 1) := by decide +kernel
theorem dX12_pairsNow_5 : decode cX12_pairsNow 5 = .ok (.istore_n 1, 1) := by decide +kernel
theorem dX12_pairsNow_6 : decode cX12_pairsNow 6 = .ok (.iconst 0, 1) := by decide +kernel
theorem dX12_pairsNow_7 : decode cX12_pairsNow 7 = .ok (.istore_n 2, 1) := by decide +kernel
theorem dX12_pairsNow_8 : decode cX12_pairsNow 8 = .ok (.iload_n 2, 1) := by decide +kernel
theorem dX12_pairsNow_9 : decode cX12_pairsNow 9 = .ok (.aload_n 0, 1) := by decide +kernel
theorem dX12_pairsNow_10 : decode cX12_pairsNow 10 = .ok (.getfield 356, 3) := by decide +kernel
theorem dX12_pairsNow_13 : decode cX12_pairsNow 13 = .ok (.if_icmp .ge 23, 3) := by decide +kernel
theorem dX12_pairsNow_16 : decode cX12_pairsNow 16 = .ok (.aload_n 0, 1) := by decide +kernel
theorem dX12_pairsNow_17 : decode cX12_pairsNow 17 = .ok (.getfield 49, 3) := by decide +kernel
theorem dX12_pairsNow_20 : decode cX12_pairsNow 20 = .ok (.iload_n 2, 1) := by decide +kernel
theorem dX12_pairsNow_21 : decode cX12_pairsNow 21 = .ok (.iconst (-1), 1) := by decide +kernel
theorem dX12_pairsNow_22 : decode cX12_pairsNow 22 = .ok (.iastore, 1) := by decide +kernel
theorem dX12_pairsNow_23 : decode cX12_pairsNow 23 = .ok (.aload_n 0, 1) := by decide +kernel
theorem dX12_pairsNow_24 : decode cX12_pairsNow 24 = .ok (.getfield 58, 3) := by decide +kernel
theorem dX12_pairsNow_27 : decode cX12_pairsNow 27 = .ok (.iload_n 2, 1) := by decide +kernel
theorem dX12_pairsNow_28 : decode cX12_pairsNow 28 = .ok (.iconst 0, 1) := by decide +kernel
theorem dX12_pairsNow_29 : decode cX12_pairsNow 29 = .ok (.bastore, 1) := by decide +kernel
theorem dX12_pairsNow_30 : decode cX12_pairsNow 30 = .ok (.iinc 2 1, 3) := by decide +kernel
theorem dX12_pairsNow_33 : decode cX12_pairsNow 33 = .ok (.goto (-25), 3) := by decide +kernel
theorem dX12_pairsNow_36 : decode cX12_pairsNow 36 = .ok (.iconst 0, 1) := by decide +kernel
theorem dX12_pairsNow_37 : decode cX12_pairsNow 37 = .ok (.istore_n 2, 1) := by decide +kernel
theorem dX12_pairsNow_38 : decode cX12_pairsNow 38 = .ok (.iload_n 2, 1) := by decide +kernel
theorem dX12_pairsNow_39 : decode cX12_pairsNow 39 = .ok (.aload_n 0, 1) := by decide +kernel
theorem dX12_pairsNow_40 : decode cX12_pairsNow 40 = .ok (.getfield 356, 3) := by decide +kernel
theorem dX12_pairsNow_43 : decode cX12_pairsNow 43 = .ok (.if_icmp .ge 27, 3) := by decide +kernel
theorem dX12_pairsNow_46 : decode cX12_pairsNow 46 = .ok (.iload_n 1, 1) := by decide +kernel
theorem dX12_pairsNow_47 : decode cX12_pairsNow 47 = .ok (.aload_n 0, 1) := by decide +kernel
theorem dX12_pairsNow_48 : decode cX12_pairsNow 48 = .ok (.iload_n 2, 1) := by decide +kernel
theorem dX12_pairsNow_49 : decode cX12_pairsNow 49 = .ok (.iconst 0, 1) := by decide +kernel
theorem dX12_pairsNow_50 : decode cX12_pairsNow 50 = .ok (.iconst (-1), 1) := by decide +kernel
theorem dX12_pairsNow_51 : decode cX12_pairsNow 51 = .ok (.invokevirtual 485, 3) := by decide +kernel
theorem dX12_pairsNow_54 : decode cX12_pairsNow 54 = .ok (.ifCond .eq 7, 3) := by decide +kernel
theorem dX12_pairsNow_57 : decode cX12_pairsNow 57 = .ok (.iconst 1, 1) := by decide +kernel
theorem dX12_pairsNow_58 : decode cX12_pairsNow 58 = .ok (.goto 4, 3) := by decide +kernel
theorem dX12_pairsNow_61 : decode cX12_pairsNow 61 = .ok (.iconst 0, 1) := by decide +kernel
theorem dX12_pairsNow_62 : decode cX12_pairsNow 62 = .ok (.iadd, 1) := by decide +kernel
theorem dX12_pairsNow_63 : decode cX12_pairsNow 63 = .ok (.istore_n 1, 1) := by decide +kernel
theorem dX12_pairsNow_64 : decode cX12_pairsNow 64 = .ok (.iinc 2 1, 3) := by decide +kernel
theorem dX12_pairsNow_67 : decode cX12_pairsNow 67 = .ok (.goto (-29), 3) := by decide +kernel
theorem dX12_pairsNow_70 : decode cX12_pairsNow 70 = .ok (.iload_n 1, 1) := by decide +kernel
theorem dX12_pairsNow_71 : decode cX12_pairsNow 71 = .ok (.ireturn, 1) := by decide +kernel
theorem dX12_settles_0 : decode cX12_settles 0 = .ok (.aload_n 0, 1) := by decide +kernel
theorem dX12_settles_1 : decode cX12_settles 1 = .ok (.getfield 49, 3) := by decide +kernel
theorem dX12_settles_4 : decode cX12_settles 4 = .ok (.iload_n 1, 1) := by decide +kernel
theorem dX12_settles_5 : decode cX12_settles 5 = .ok (.iaload, 1) := by decide +kernel
theorem dX12_settles_6 : decode cX12_settles 6 = .ok (.istore_n 3, 1) := by decide +kernel
theorem dX12_settles_7 : decode cX12_settles 7 = .ok (.iload_n 2, 1) := by decide +kernel
theorem dX12_settles_8 : decode cX12_settles 8 = .ok (.iload_n 3, 1) := by decide +kernel
theorem dX12_settles_9 : decode cX12_settles 9 = .ok (.if_icmp .ne 5, 3) := by decide +kernel
theorem dX12_settles_12 : decode cX12_settles 12 = .ok (.iconst 1, 1) := by decide +kernel
theorem dX12_settles_13 : decode cX12_settles 13 = .ok (.ireturn, 1) := by decide +kernel
theorem dX12_settles_14 : decode cX12_settles 14 = .ok (.aload_n 0, 1) := by decide +kernel
theorem dX12_settles_15 : decode cX12_settles 15 = .ok (.iload_n 2, 1) := by decide +kernel
theorem dX12_settles_16 : decode cX12_settles 16 = .ok (.invokevirtual 470, 3) := by decide +kernel
theorem dX12_settles_19 : decode cX12_settles 19 = .ok (.istore 4, 2) := by decide +kernel
theorem dX12_settles_21 : decode cX12_settles 21 = .ok (.iload 4, 2) := by decide +kernel
theorem dX12_settles_23 : decode cX12_settles 23 = .ok (.iconst (-1), 1) := by decide +kernel
theorem dX12_settles_24 : decode cX12_settles 24 = .ok (.if_icmp .eq 11, 3) := by decide +kernel
theorem dX12_settles_27 : decode cX12_settles 27 = .ok (.iload 4, 2) := by decide +kernel
theorem dX12_settles_29 : decode cX12_settles 29 = .ok (.iload_n 1, 1) := by decide +kernel
theorem dX12_settles_30 : decode cX12_settles 30 = .ok (.if_icmp .ge 5, 3) := by decide +kernel
theorem dX12_settles_33 : decode cX12_settles 33 = .ok (.iconst 0, 1) := by decide +kernel
theorem dX12_settles_34 : decode cX12_settles 34 = .ok (.ireturn, 1) := by decide +kernel
theorem dX12_settles_35 : decode cX12_settles 35 = .ok (.aload_n 0, 1) := by decide +kernel
theorem dX12_settles_36 : decode cX12_settles 36 = .ok (.iload_n 3, 1) := by decide +kernel
theorem dX12_settles_37 : decode cX12_settles 37 = .ok (.iconst (-1), 1) := by decide +kernel
theorem dX12_settles_38 : decode cX12_settles 38 = .ok (.invokevirtual 461, 3) := by decide +kernel
theorem dX12_settles_41 : decode cX12_settles 41 = .ok (.iload 4, 2) := by decide +kernel
theorem dX12_settles_43 : decode cX12_settles 43 = .ok (.iconst (-1), 1) := by decide +kernel
theorem dX12_settles_44 : decode cX12_settles 44 = .ok (.if_icmp .eq 24, 3) := by decide +kernel
theorem dX12_settles_47 : decode cX12_settles 47 = .ok (.aload_n 0, 1) := by decide +kernel
theorem dX12_settles_48 : decode cX12_settles 48 = .ok (.iload 4, 2) := by decide +kernel
theorem dX12_settles_50 : decode cX12_settles 50 = .ok (.iload_n 1, 1) := by decide +kernel
theorem dX12_settles_51 : decode cX12_settles 51 = .ok (.iconst 1, 1) := by decide +kernel
theorem dX12_settles_52 : decode cX12_settles 52 = .ok (.iadd, 1) := by decide +kernel
theorem dX12_settles_53 : decode cX12_settles 53 = .ok (.iload_n 2, 1) := by decide +kernel
theorem dX12_settles_54 : decode cX12_settles 54 = .ok (.invokevirtual 485, 3) := by decide +kernel
theorem dX12_settles_57 : decode cX12_settles 57 = .ok (.ifCond .ne 11, 3) := by decide +kernel
theorem dX12_settles_60 : decode cX12_settles 60 = .ok (.aload_n 0, 1) := by decide +kernel
theorem dX12_settles_61 : decode cX12_settles 61 = .ok (.iload_n 3, 1) := by decide +kernel
theorem dX12_settles_62 : decode cX12_settles 62 = .ok (.iload_n 1, 1) := by decide +kernel
theorem dX12_settles_63 : decode cX12_settles 63 = .ok (.invokevirtual 461, 3) := by decide +kernel
theorem dX12_settles_66 : decode cX12_settles 66 = .ok (.iconst 0, 1) := by decide +kernel
theorem dX12_settles_67 : decode cX12_settles 67 = .ok (.ireturn, 1) := by decide +kernel
theorem dX12_settles_68 : decode cX12_settles 68 = .ok (.aload_n 0, 1) := by decide +kernel
theorem dX12_settles_69 : decode cX12_settles 69 = .ok (.getfield 49, 3) := by decide +kernel
theorem dX12_settles_72 : decode cX12_settles 72 = .ok (.iload_n 1, 1) := by decide +kernel
theorem dX12_settles_73 : decode cX12_settles 73 = .ok (.iload_n 2, 1) := by decide +kernel
theorem dX12_settles_74 : decode cX12_settles 74 = .ok (.iastore, 1) := by decide +kernel
theorem dX12_settles_75 : decode cX12_settles 75 = .ok (.aload_n 0, 1) := by decide +kernel
theorem dX12_settles_76 : decode cX12_settles 76 = .ok (.iload_n 2, 1) := by decide +kernel
theorem dX12_settles_77 : decode cX12_settles 77 = .ok (.iload_n 1, 1) := by decide +kernel
theorem dX12_settles_78 : decode cX12_settles 78 = .ok (.invokevirtual 461, 3) := by decide +kernel
theorem dX12_settles_81 : decode cX12_settles 81 = .ok (.iconst 1, 1) := by decide +kernel
theorem dX12_settles_82 : decode cX12_settles 82 = .ok (.ireturn, 1) := by decide +kernel
theorem dX12_knowsTable_0 : decode cX12_knowsTable 0 = .ok (.aload_n 0, 1) := by decide +kernel
theorem dX12_knowsTable_1 : decode cX12_knowsTable 1 = .ok (.getfield 343, 3) := by decide +kernel
theorem dX12_knowsTable_4 : decode cX12_knowsTable 4 = .ok (.ifCond .eq 4, 3) := by decide +kernel
theorem dX12_knowsTable_7 : decode cX12_knowsTable 7 = .ok (.return_, 1) := by decide +kernel
theorem dX12_knowsTable_8 : decode cX12_knowsTable 8 = .ok (.aload_n 0, 1) := by decide +kernel
theorem dX12_knowsTable_9 : decode cX12_knowsTable 9 = .ok (.iconst 1, 1) := by decide +kernel
theorem dX12_knowsTable_10 : decode cX12_knowsTable 10 = .ok (.putfield 343, 3) := by decide +kernel
theorem dX12_knowsTable_13 : decode cX12_knowsTable 13 = .ok (.aload_n 0, 1) := by decide +kernel
theorem dX12_knowsTable_14 : decode cX12_knowsTable 14 = .ok (.aload_n 0, 1) := by decide +kernel
theorem dX12_knowsTable_15 : decode cX12_knowsTable 15 = .ok (.invokevirtual 488, 3) := by decide +kernel
theorem dX12_knowsTable_18 : decode cX12_knowsTable 18 = .ok (.aload_n 0, 1) := by decide +kernel
theorem dX12_knowsTable_19 : decode cX12_knowsTable 19 = .ok (.getfield 356, 3) := by decide +kernel
theorem dX12_knowsTable_22 : decode cX12_knowsTable 22 = .ok (.if_icmp .ne 7, 3) := by decide +kernel
theorem dX12_knowsTable_25 : decode cX12_knowsTable 25 = .ok (.iconst 1, 1) := by decide +kernel
theorem dX12_knowsTable_26 : decode cX12_knowsTable 26 = .ok (.goto 4, 3) := by decide +kernel
theorem dX12_knowsTable_29 : decode cX12_knowsTable 29 = .ok (.iconst 0, 1) := by decide +kernel
theorem dX12_knowsTable_30 : decode cX12_knowsTable 30 = .ok (.putfield 427, 3) := by decide +kernel
theorem dX12_knowsTable_33 : decode cX12_knowsTable 33 = .ok (.iconst 0, 1) := by decide +kernel
theorem dX12_knowsTable_34 : decode cX12_knowsTable 34 = .ok (.istore_n 1, 1) := by decide +kernel
theorem dX12_knowsTable_35 : decode cX12_knowsTable 35 = .ok (.iload_n 1, 1) := by decide +kernel
theorem dX12_knowsTable_36 : decode cX12_knowsTable 36 = .ok (.aload_n 0, 1) := by decide +kernel
theorem dX12_knowsTable_37 : decode cX12_knowsTable 37 = .ok (.getfield 356, 3) := by decide +kernel
theorem dX12_knowsTable_40 : decode cX12_knowsTable 40 = .ok (.if_icmp .ge 85, 3) := by decide +kernel
theorem dX12_knowsTable_43 : decode cX12_knowsTable 43 = .ok (.aload_n 0, 1) := by decide +kernel
theorem dX12_knowsTable_44 : decode cX12_knowsTable 44 = .ok (.getfield 427, 3) := by decide +kernel
theorem dX12_knowsTable_47 : decode cX12_knowsTable 47 = .ok (.ifCond .eq 78, 3) := by decide +kernel
theorem dX12_knowsTable_50 : decode cX12_knowsTable 50 = .ok (.aload_n 0, 1) := by decide +kernel
theorem dX12_knowsTable_51 : decode cX12_knowsTable 51 = .ok (.iload_n 1, 1) := by decide +kernel
theorem dX12_knowsTable_52 : decode cX12_knowsTable 52 = .ok (.invokevirtual 479, 3) := by decide +kernel
theorem dX12_knowsTable_55 : decode cX12_knowsTable 55 = .ok (.aload_n 0, 1) := by decide +kernel
theorem dX12_knowsTable_56 : decode cX12_knowsTable 56 = .ok (.getfield 400, 3) := by decide +kernel
theorem dX12_knowsTable_59 : decode cX12_knowsTable 59 = .ok (.istore_n 2, 1) := by decide +kernel
theorem dX12_knowsTable_60 : decode cX12_knowsTable 60 = .ok (.iconst 0, 1) := by decide +kernel
theorem dX12_knowsTable_61 : decode cX12_knowsTable 61 = .ok (.istore_n 3, 1) := by decide +kernel
theorem dX12_knowsTable_62 : decode cX12_knowsTable 62 = .ok (.iload_n 3, 1) := by decide +kernel
theorem dX12_knowsTable_63 : decode cX12_knowsTable 63 = .ok (.iload_n 2, 1) := by decide +kernel
theorem dX12_knowsTable_64 : decode cX12_knowsTable 64 = .ok (.if_icmp .ge 21, 3) := by decide +kernel
theorem dX12_knowsTable_67 : decode cX12_knowsTable 67 = .ok (.aload_n 0, 1) := by decide +kernel
theorem dX12_knowsTable_68 : decode cX12_knowsTable 68 = .ok (.getfield 65, 3) := by decide +kernel
theorem dX12_knowsTable_71 : decode cX12_knowsTable 71 = .ok (.iload_n 3, 1) := by decide +kernel
theorem dX12_knowsTable_72 : decode cX12_knowsTable 72 = .ok (.aload_n 0, 1) := by decide +kernel
theorem dX12_knowsTable_73 : decode cX12_knowsTable 73 = .ok (.getfield 30, 3) := by decide +kernel
theorem dX12_knowsTable_76 : decode cX12_knowsTable 76 = .ok (.iload_n 3, 1) := by decide +kernel
theorem dX12_knowsTable_77 : decode cX12_knowsTable 77 = .ok (.iaload, 1) := by decide +kernel
theorem dX12_knowsTable_78 : decode cX12_knowsTable 78 = .ok (.iastore, 1) := by decide +kernel
theorem dX12_knowsTable_79 : decode cX12_knowsTable 79 = .ok (.iinc 3 1, 3) := by decide +kernel
theorem dX12_knowsTable_82 : decode cX12_knowsTable 82 = .ok (.goto (-20), 3) := by decide +kernel
theorem dX12_knowsTable_85 : decode cX12_knowsTable 85 = .ok (.iconst 0, 1) := by decide +kernel
theorem dX12_knowsTable_86 : decode cX12_knowsTable 86 = .ok (.istore_n 3, 1) := by decide +kernel
theorem dX12_knowsTable_87 : decode cX12_knowsTable 87 = .ok (.aload_n 0, 1) := by decide +kernel
theorem dX12_knowsTable_88 : decode cX12_knowsTable 88 = .ok (.iload_n 1, 1) := by decide +kernel
theorem dX12_knowsTable_89 : decode cX12_knowsTable 89 = .ok (.aload_n 0, 1) := by decide +kernel
theorem dX12_knowsTable_90 : decode cX12_knowsTable 90 = .ok (.getfield 65, 3) := by decide +kernel
theorem dX12_knowsTable_93 : decode cX12_knowsTable 93 = .ok (.iload_n 3, 1) := by decide +kernel
theorem dX12_knowsTable_94 : decode cX12_knowsTable 94 = .ok (.iaload, 1) := by decide +kernel
theorem dX12_knowsTable_95 : decode cX12_knowsTable 95 = .ok (.invokevirtual 491, 3) := by decide +kernel
theorem dX12_knowsTable_98 : decode cX12_knowsTable 98 = .ok (.ifCond .ne 9, 3) := by decide +kernel
theorem dX12_knowsTable_101 : decode cX12_knowsTable 101 = .ok (.iinc 3 1, 3) := by decide +kernel
theorem dX12_knowsTable_104 : decode cX12_knowsTable 104 = .ok (.goto (-17), 3) := by decide +kernel
theorem dX12_knowsTable_107 : decode cX12_knowsTable 107 = .ok (.aload_n 0, 1) := by decide +kernel
theorem dX12_knowsTable_108 : decode cX12_knowsTable 108 = .ok (.getfield 62, 3) := by decide +kernel
theorem dX12_knowsTable_111 : decode cX12_knowsTable 111 = .ok (.iload_n 1, 1) := by decide +kernel
theorem dX12_knowsTable_112 : decode cX12_knowsTable 112 = .ok (.aload_n 0, 1) := by decide +kernel
theorem dX12_knowsTable_113 : decode cX12_knowsTable 113 = .ok (.getfield 49, 3) := by decide +kernel
theorem dX12_knowsTable_116 : decode cX12_knowsTable 116 = .ok (.iload_n 1, 1) := by decide +kernel
theorem dX12_knowsTable_117 : decode cX12_knowsTable 117 = .ok (.iaload, 1) := by decide +kernel
theorem dX12_knowsTable_118 : decode cX12_knowsTable 118 = .ok (.iastore, 1) := by decide +kernel
theorem dX12_knowsTable_119 : decode cX12_knowsTable 119 = .ok (.iinc 1 1, 3) := by decide +kernel
theorem dX12_knowsTable_122 : decode cX12_knowsTable 122 = .ok (.goto (-87), 3) := by decide +kernel
theorem dX12_knowsTable_125 : decode cX12_knowsTable 125 = .ok (.return_, 1) := by decide +kernel
theorem dX12_laysNow_0 : decode cX12_laysNow 0 = .ok (.aload_n 0, 1) := by decide +kernel
theorem dX12_laysNow_1 : decode cX12_laysNow 1 = .ok (.getfield 329, 3) := by decide +kernel
theorem dX12_laysNow_4 : decode cX12_laysNow 4 = .ok (.getfield 283, 3) := by decide +kernel
theorem dX12_laysNow_7 : decode cX12_laysNow 7 = .ok (.iload_n 1, 1) := by decide +kernel
theorem dX12_laysNow_8 : decode cX12_laysNow 8 = .ok (.iaload, 1) := by decide +kernel
theorem dX12_laysNow_9 : decode cX12_laysNow 9 = .ok (.istore_n 3, 1) := by decide +kernel
theorem dX12_laysNow_10 : decode cX12_laysNow 10 = .ok (.iload_n 3, 1) := by decide +kernel
theorem dX12_laysNow_11 : decode cX12_laysNow 11 = .ok (.bipush 20, 2) := by decide +kernel
theorem dX12_laysNow_13 : decode cX12_laysNow 13 = .ok (.if_icmp .ne 9, 3) := by decide +kernel
theorem dX12_laysNow_16 : decode cX12_laysNow 16 = .ok (.aload_n 0, 1) := by decide +kernel
theorem dX12_laysNow_17 : decode cX12_laysNow 17 = .ok (.iload_n 2, 1) := by decide +kernel
theorem dX12_laysNow_18 : decode cX12_laysNow 18 = .ok (.invokevirtual 418, 3) := by decide +kernel
theorem dX12_laysNow_21 : decode cX12_laysNow 21 = .ok (.ireturn, 1) := by decide +kernel
theorem dX12_laysNow_22 : decode cX12_laysNow 22 = .ok (.iload_n 3, 1) := by decide +kernel
theorem dX12_laysNow_23 : decode cX12_laysNow 23 = .ok (.bipush 21, 2) := by decide +kernel
theorem dX12_laysNow_25 : decode cX12_laysNow 25 = .ok (.if_icmp .eq 10, 3) := by decide +kernel
theorem dX12_laysNow_28 : decode cX12_laysNow 28 = .ok (.aload_n 0, 1) := by decide +kernel
theorem dX12_laysNow_29 : decode cX12_laysNow 29 = .ok (.iload_n 3, 1) := by decide +kernel
theorem dX12_laysNow_30 : decode cX12_laysNow 30 = .ok (.iload_n 2, 1) := by decide +kernel
theorem dX12_laysNow_31 : decode cX12_laysNow 31 = .ok (.invokevirtual 421, 3) := by decide +kernel
theorem dX12_laysNow_34 : decode cX12_laysNow 34 = .ok (.ireturn, 1) := by decide +kernel
theorem dX12_laysNow_35 : decode cX12_laysNow 35 = .ok (.aload_n 0, 1) := by decide +kernel
theorem dX12_laysNow_36 : decode cX12_laysNow 36 = .ok (.getfield 356, 3) := by decide +kernel
theorem dX12_laysNow_39 : decode cX12_laysNow 39 = .ok (.sipush 300, 3) := by decide +kernel
theorem dX12_laysNow_42 : decode cX12_laysNow 42 = .ok (.if_icmp .le 6, 3) := by decide +kernel
theorem dX12_laysNow_45 : decode cX12_laysNow 45 = .ok (.bipush (-2), 2) := by decide +kernel
theorem dX12_laysNow_47 : decode cX12_laysNow 47 = .ok (.ireturn, 1) := by decide +kernel
theorem dX12_laysNow_48 : decode cX12_laysNow 48 = .ok (.aload_n 0, 1) := by decide +kernel
theorem dX12_laysNow_49 : decode cX12_laysNow 49 = .ok (.invokevirtual 424, 3) := by decide +kernel
theorem dX12_laysNow_52 : decode cX12_laysNow 52 = .ok (.aload_n 0, 1) := by decide +kernel
theorem dX12_laysNow_53 : decode cX12_laysNow 53 = .ok (.getfield 427, 3) := by decide +kernel
theorem dX12_laysNow_56 : decode cX12_laysNow 56 = .ok (.ifCond .eq 12, 3) := by decide +kernel
theorem dX12_laysNow_59 : decode cX12_laysNow 59 = .ok (.aload_n 0, 1) := by decide +kernel
theorem dX12_laysNow_60 : decode cX12_laysNow 60 = .ok (.getfield 62, 3) := by decide +kernel
theorem dX12_laysNow_63 : decode cX12_laysNow 63 = .ok (.iload_n 2, 1) := by decide +kernel
theorem dX12_laysNow_64 : decode cX12_laysNow 64 = .ok (.iaload, 1) := by decide +kernel
theorem dX12_laysNow_65 : decode cX12_laysNow 65 = .ok (.goto 5, 3) := by decide +kernel
theorem dX12_laysNow_68 : decode cX12_laysNow 68 = .ok (.bipush (-2), 2) := by decide +kernel
theorem dX12_laysNow_70 : decode cX12_laysNow 70 = .ok (.ireturn, 1) := by decide +kernel
set_option maxHeartbeats 4000000 in
set_option maxRecDepth 100000 in
theorem sX12_slot {l : Launch} {D : va_G} {cA : Nat → ClassId} {base : Nat} {sA : Nat → Nat} {r0 : Nat} {x1 : Int32} {h hE : Zh} {rE : Int32} (hf : fX12_slot r0 x1 h = some (rE, hE)) : zC l yX12_slot cX12_slot 3 (some .int) 0 0 D cA base sA [.ref (base + r0), .int x1] h (some (.int rE)) hE := by
  refine g_entry RX12 (by decide) rfl (Nat.le_of_ble_eq_true rfl) ?_
  intro p e s m args below meth c X hr
  unfold fX12_slot at hf
  have hf := zlet_n (x := h) rfl hf
  show zG p l e { frames := 0, cells := 0, slots := 0, locals := 0 } s m args below meth c (MQ below (zQ D cA base h hE (some (.int rE))) args s 0 0 (zA base)) 3 D cA base h 0 [(0, .ref (base + r0)), (1, .int x1)] [] h
  refine g_iload_n X 1 dX12_slot_0 rfl ?_
  refine g_ldcw X w_c_RX12_454 dX12_slot_1 ?_
  refine g_imul X dX12_slot_4 ?_
  refine g_bipush X (v := 17) dX12_slot_5 (by decide) ?_
  refine g_iushr X dX12_slot_7 ?_
  refine g_topi (fun y1 ey1 => ?_)
  have hf := zlet_n ey1 hf
  refine g_istore_n X [(2, .int y1), (0, .ref (base + r0)), (1, .int x1)] dX12_slot_8 (by decide) rfl ?_
  refine g_sub [1, 2, 0] rfl ?_
  obtain ⟨qq, hlp, hf⟩ := zbd hf
  refine lp_snd (body := (fun q : Int32 × Zh => bX12_slot_9 h r0 x1 q.1 q.2)) (P := (fun q : Int32 × Zh => zG p l e { frames := 0, cells := 0, slots := 0, locals := 0 } s m args below meth c (MQ below (zQ D cA base h hE (some (.int rE))) args s 0 0 (zA base)) 3 D cA base h 9 [(0, .ref (base + r0)), (1, .int x1), (2, .int q.1)] [] q.2)) (E := (fun (en : Nat) (q : Int32 × Zh) => zG p l e { frames := 0, cells := 0, slots := 0, locals := 0 } s m args below meth c (MQ below (zQ D cA base h hE (some (.int rE))) args s 0 0 (zA base)) 3 D cA base h 40 [(2, .int q.1)] [] q.2)) ?_ zB (y1, h) qq.1 qq.2 hlp ?_
  · intro q e_9 q_9 hf hc0 hc1
    obtain ⟨x2_9, h_9⟩ := q
    have hf : bX12_slot_9 h r0 x1 x2_9 h_9 = some (e_9, q_9) := hf
    unfold bX12_slot_9 at hf
    show zG p l e { frames := 0, cells := 0, slots := 0, locals := 0 } s m args below meth c (MQ below (zQ D cA base h hE (some (.int rE))) args s 0 0 (zA base)) 3 D cA base h 9 [(0, .ref (base + r0)), (1, .int x1), (2, .int x2_9)] [] h_9
    refine g_aload_n X 0 dX12_slot_9 rfl ?_
    obtain ⟨hk2, hf⟩ := zite hf
    obtain ⟨r_3, hr_3, hf⟩ := zbd hf
    refine g_get X zf12 hk2 27 (by decide) w_f_RX12_43 rfl (zfv_r hr_3 rfl) dX12_slot_10 ?_
    refine g_iload_n X 2 dX12_slot_13 rfl ?_
    obtain ⟨hk4, hf⟩ := zite hf
    obtain ⟨hi5, hf⟩ := zite hf
    refine g_iald X hk4 hi5 dX12_slot_14 ?_
    refine g_iconst X (v := -1) dX12_slot_15 (by decide) ?_
    refine g_icmp_eq X 40 dX12_slot_16 (by decide) (fun hq => ?_) (fun hq => ?_)
    · have hf := zpos hq hf
      cases hf
      have hc1 := hc1 (by decide)
      exact g_sub [2] rfl hc1
    · have hf := zneg hq hf
      refine g_aload_n X 0 dX12_slot_19 rfl ?_
      obtain ⟨r_6, hr_6, hf⟩ := zbd hf
      refine g_get X zf12 hk2 27 (by decide) w_f_RX12_43 rfl (zfv_r hr_6 rfl) dX12_slot_20 ?_
      refine g_iload_n X 2 dX12_slot_23 rfl ?_
      obtain ⟨hk7, hf⟩ := zite hf
      obtain ⟨hi8, hf⟩ := zite hf
      refine g_iald X hk7 hi8 dX12_slot_24 ?_
      refine g_iload_n X 1 dX12_slot_25 rfl ?_
      refine g_icmp_eq X 40 dX12_slot_26 (by decide) (fun hq => ?_) (fun hq => ?_)
      · have hf := zpos hq hf
        cases hf
        have hc1 := hc1 (by decide)
        exact g_sub [2] rfl hc1
      · have hf := zneg hq hf
        refine g_iload_n X 2 dX12_slot_29 rfl ?_
        refine g_iconst X (v := 1) dX12_slot_30 (by decide) ?_
        refine g_iadd X dX12_slot_31 ?_
        refine g_sipush X (v := 32767) dX12_slot_32 (by decide) ?_
        refine g_iand X dX12_slot_35 ?_
        refine g_topi (fun y9 ey9 => ?_)
        have hf := zlet_n ey9 hf
        refine g_istore_n X [(2, .int y9), (0, .ref (base + r0)), (1, .int x1)] dX12_slot_36 (by decide) rfl ?_
        refine g_goto X 9 dX12_slot_37 (by decide) ?_
        cases hf
        exact g_sub [1, 2, 0] rfl (hc0 rfl)
  · obtain ⟨ee, x2_k9, h_k9⟩ := qq
    have hf : kX12_slot_9 h ee x2_k9 h_k9 = some (rE, hE) := hf
    unfold kX12_slot_9 at hf
    show zG p l e { frames := 0, cells := 0, slots := 0, locals := 0 } s m args below meth c (MQ below (zQ D cA base h hE (some (.int rE))) args s 0 0 (zA base)) 3 D cA base h 40 [(2, .int x2_k9)] [] h_k9
    refine g_iload_n X 0 dX12_slot_40 rfl ?_
    obtain ⟨rfl, rfl⟩ := zsm hf
    exact g_iret X hr dX12_slot_41

set_option maxHeartbeats 4000000 in
set_option maxRecDepth 100000 in
theorem sX12_ownerOf {l : Launch} {D : va_G} {cA : Nat → ClassId} {base : Nat} {sA : Nat → Nat} {r0 : Nat} {x1 : Int32} {h hE : Zh} {rE : Int32} (hf : fX12_ownerOf r0 x1 h = some (rE, hE)) : zC l yX12_ownerOf cX12_ownerOf 3 (some .int) 1 22 D cA base sA [.ref (base + r0), .int x1] h (some (.int rE)) hE := by
  refine g_entry RX12 (by decide) rfl (Nat.le_of_ble_eq_true rfl) ?_
  intro p e s m args below meth c X hr
  unfold fX12_ownerOf at hf
  have hf := zlet_n (x := h) rfl hf
  show zG p l e { frames := 1, cells := 0, slots := 0, locals := 22 } s m args below meth c (MQ below (zQ D cA base h hE (some (.int rE))) args s 0 0 (zA base)) 3 D cA base h 0 [(0, .ref (base + r0)), (1, .int x1)] [] h
  refine g_aload_n X 0 dX12_ownerOf_0 rfl ?_
  refine g_iload_n X 1 dX12_ownerOf_1 rfl ?_
  obtain ⟨hk1, hf⟩ := zite hf
  obtain ⟨v3, h2, hch2, hf⟩ := zc2_e hf
  refine g_callV X 1 (sX12_slot hch2) zf12 hk1 ydX12_slot w_ml_RX12_455 w_instanceMethod_X12_slot w_sel_X12_slot w_ini_RX12 w_code_X12_slot (by decide) rfl (st := []) rfl rfl (Nat.le_of_ble_eq_true rfl) dX12_ownerOf_2 ?_
  refine g_istore_n X [(2, .int v3), (0, .ref (base + r0)), (1, .int x1)] dX12_ownerOf_5 (by decide) rfl ?_
  refine g_aload_n X 1 dX12_ownerOf_6 rfl ?_
  obtain ⟨r_4, hr_4, hf⟩ := zbd hf
  refine g_get X zf12 hk1 27 (by decide) w_f_RX12_43 rfl (zfv_r hr_4 rfl) dX12_ownerOf_7 ?_
  refine g_iload_n X 0 dX12_ownerOf_10 rfl ?_
  obtain ⟨hk5, hf⟩ := zite hf
  obtain ⟨hi6, hf⟩ := zite hf
  refine g_iald X hk5 hi6 dX12_ownerOf_11 ?_
  refine g_iconst X (v := -1) dX12_ownerOf_12 (by decide) ?_
  refine g_icmp_ne X 20 dX12_ownerOf_13 (by decide) (fun hq => ?_) (fun hq => ?_)
  · have hf := zneg hq hf
    refine g_aload_n X 1 dX12_ownerOf_20 rfl ?_
    obtain ⟨r_7, hr_7, hf⟩ := zbd hf
    refine g_get X zf12 hk1 28 (by decide) w_f_RX12_46 rfl (zfv_r hr_7 rfl) dX12_ownerOf_21 ?_
    refine g_iload_n X 0 dX12_ownerOf_24 rfl ?_
    obtain ⟨hk8, hf⟩ := zite hf
    obtain ⟨hi9, hf⟩ := zite hf
    refine g_iald X hk8 hi9 dX12_ownerOf_25 ?_
    obtain ⟨rfl, rfl⟩ := zsm hf
    exact g_iret X hr dX12_ownerOf_26
  · have hf := zpos hq hf
    refine g_iconst X (v := -1) dX12_ownerOf_16 (by decide) ?_
    refine g_goto X 26 dX12_ownerOf_17 (by decide) ?_
    obtain ⟨rfl, rfl⟩ := zsm hf
    exact g_iret X hr dX12_ownerOf_26

set_option maxHeartbeats 4000000 in
set_option maxRecDepth 100000 in
theorem sX12_owns {l : Launch} {D : va_G} {cA : Nat → ClassId} {base : Nat} {sA : Nat → Nat} {r0 : Nat} {x1 : Int32} {x2 : Int32} {h hE : Zh} (hf : fX12_owns r0 x1 x2 h = some hE) : zC l yX12_owns cX12_owns 4 none 1 22 D cA base sA [.ref (base + r0), .int x1, .int x2] h none hE := by
  refine g_entry RX12 (by decide) rfl (Nat.le_of_ble_eq_true rfl) ?_
  intro p e s m args below meth c X hr
  unfold fX12_owns at hf
  have hf := zlet_n (x := h) rfl hf
  show zG p l e { frames := 1, cells := 0, slots := 0, locals := 22 } s m args below meth c (MQ below (zQ D cA base h hE none) args s 0 0 (zA base)) 4 D cA base h 0 [(0, .ref (base + r0)), (1, .int x1), (2, .int x2)] [] h
  refine g_aload_n X 0 dX12_owns_0 rfl ?_
  refine g_iload_n X 1 dX12_owns_1 rfl ?_
  obtain ⟨hk1, hf⟩ := zite hf
  obtain ⟨v3, h2, hch2, hf⟩ := zc2_e hf
  refine g_callV X 1 (sX12_slot hch2) zf12 hk1 ydX12_slot w_ml_RX12_455 w_instanceMethod_X12_slot w_sel_X12_slot w_ini_RX12 w_code_X12_slot (by decide) rfl (st := []) rfl rfl (Nat.le_of_ble_eq_true rfl) dX12_owns_2 ?_
  refine g_istore_n X [(3, .int v3), (0, .ref (base + r0)), (1, .int x1), (2, .int x2)] dX12_owns_5 (by decide) rfl ?_
  refine g_aload_n X 1 dX12_owns_6 rfl ?_
  obtain ⟨r_4, hr_4, hf⟩ := zbd hf
  refine g_get X zf12 hk1 27 (by decide) w_f_RX12_43 rfl (zfv_r hr_4 rfl) dX12_owns_7 ?_
  refine g_iload_n X 0 dX12_owns_10 rfl ?_
  refine g_iload_n X 2 dX12_owns_11 rfl ?_
  obtain ⟨hk5, hf⟩ := zite hf
  obtain ⟨hi6, hf⟩ := zite hf
  refine g_iast X hk5 hi6 dX12_owns_12 ?_
  refine g_hp (fun h7 eh7 => ?_)
  have hf := zlet_n eh7 hf
  refine g_aload_n X 1 dX12_owns_13 rfl ?_
  obtain ⟨r_8, hr_8, hf⟩ := zbd hf
  refine g_get X zf12 hk1 28 (by decide) w_f_RX12_46 rfl (zfv_r hr_8 rfl) dX12_owns_14 ?_
  refine g_iload_n X 0 dX12_owns_17 rfl ?_
  refine g_iload_n X 3 dX12_owns_18 rfl ?_
  obtain ⟨hk9, hf⟩ := zite hf
  obtain ⟨hi10, hf⟩ := zite hf
  refine g_iast X hk9 hi10 dX12_owns_19 ?_
  refine g_hp (fun h11 eh11 => ?_)
  have hf := zlet_n eh11 hf
  cases hf
  exact g_vret X hr dX12_owns_20

set_option maxHeartbeats 4000000 in
set_option maxRecDepth 100000 in
theorem sX12_takes {l : Launch} {D : va_G} {cA : Nat → ClassId} {base : Nat} {sA : Nat → Nat} {r0 : Nat} {x1 : Int32} {x2 : Int32} {h hE : Zh} (hf : fX12_takes r0 x1 x2 h = some hE) : zC l yX12_takes cX12_takes 6 none 2 45 D cA base sA [.ref (base + r0), .int x1, .int x2] h none hE := by
  refine g_entry RX12 (by decide) rfl (Nat.le_of_ble_eq_true rfl) ?_
  intro p e s m args below meth c X hr
  unfold fX12_takes at hf
  have hf := zlet_n (x := h) rfl hf
  show zG p l e { frames := 2, cells := 0, slots := 0, locals := 45 } s m args below meth c (MQ below (zQ D cA base h hE none) args s 0 0 (zA base)) 6 D cA base h 0 [(0, .ref (base + r0)), (1, .int x1), (2, .int x2)] [] h
  refine g_iload_n X 1 dX12_takes_0 rfl ?_
  refine g_istore_n X [(3, .int x1), (0, .ref (base + r0)), (1, .int x1), (2, .int x2)] dX12_takes_1 (by decide) rfl ?_
  refine g_iload_n X 3 dX12_takes_2 rfl ?_
  refine g_istore X [(4, .int x2), (3, .int x1), (0, .ref (base + r0)), (1, .int x1), (2, .int x2)] dX12_takes_3 (by decide) rfl ?_
  refine g_sub [2, 1, 0] rfl ?_
  obtain ⟨qq, hlp, hf⟩ := zbd hf
  refine lp_snd (body := (fun q : Int32 × Int32 × Zh => bX12_takes_5 h r0 q.1 q.2.1 q.2.2)) (P := (fun q : Int32 × Int32 × Zh => zG p l e { frames := 2, cells := 0, slots := 0, locals := 45 } s m args below meth c (MQ below (zQ D cA base h hE none) args s 0 0 (zA base)) 6 D cA base h 5 [(0, .ref (base + r0)), (3, .int q.1), (4, .int q.2.1)] [] q.2.2)) (E := (fun (en : Nat) (q : Int32 × Int32 × Zh) => zG p l e { frames := 2, cells := 0, slots := 0, locals := 45 } s m args below meth c (MQ below (zQ D cA base h hE none) args s 0 0 (zA base)) 6 D cA base h 47 [] [] q.2.2)) ?_ zB (x1, (x2, h)) qq.1 qq.2 hlp ?_
  · intro q e_5 q_5 hf hc0 hc1
    obtain ⟨x3_5, x4_5, h_5⟩ := q
    have hf : bX12_takes_5 h r0 x3_5 x4_5 h_5 = some (e_5, q_5) := hf
    unfold bX12_takes_5 at hf
    show zG p l e { frames := 2, cells := 0, slots := 0, locals := 45 } s m args below meth c (MQ below (zQ D cA base h hE none) args s 0 0 (zA base)) 6 D cA base h 5 [(0, .ref (base + r0)), (3, .int x3_5), (4, .int x4_5)] [] h_5
    refine g_iload_n X 1 dX12_takes_5 rfl ?_
    refine g_iconst X (v := -1) dX12_takes_6 (by decide) ?_
    refine g_icmp_eq X 47 dX12_takes_7 (by decide) (fun hq => ?_) (fun hq => ?_)
    · have hf := zpos hq hf
      cases hf
      have hc1 := hc1 (by decide)
      exact g_sub [] rfl hc1
    · have hf := zneg hq hf
      refine g_aload_n X 0 dX12_takes_10 rfl ?_
      obtain ⟨hk1, hf⟩ := zite hf
      obtain ⟨r_2, hr_2, hf⟩ := zbd hf
      refine g_get X zf12 hk1 29 (by decide) w_f_RX12_49 rfl (zfv_r hr_2 rfl) dX12_takes_11 ?_
      refine g_iload_n X 1 dX12_takes_14 rfl ?_
      obtain ⟨hk3, hf⟩ := zite hf
      obtain ⟨hi4, hf⟩ := zite hf
      refine g_iald X hk3 hi4 dX12_takes_15 ?_
      refine g_topi (fun y5 ey5 => ?_)
      have hf := zlet_n ey5 hf
      refine g_istore X [(5, .int y5), (0, .ref (base + r0)), (3, .int x3_5), (4, .int x4_5)] dX12_takes_16 (by decide) rfl ?_
      refine g_aload_n X 1 dX12_takes_18 rfl ?_
      obtain ⟨r_6, hr_6, hf⟩ := zbd hf
      refine g_get X zf12 hk1 29 (by decide) w_f_RX12_49 rfl (zfv_r hr_6 rfl) dX12_takes_19 ?_
      refine g_iload_n X 2 dX12_takes_22 rfl ?_
      refine g_iload X 3 dX12_takes_23 rfl ?_
      obtain ⟨hk7, hf⟩ := zite hf
      obtain ⟨hi8, hf⟩ := zite hf
      refine g_iast X hk7 hi8 dX12_takes_25 ?_
      refine g_hp (fun h9 eh9 => ?_)
      have hf := zlet_n eh9 hf
      refine g_aload_n X 1 dX12_takes_26 rfl ?_
      refine g_iload X 3 dX12_takes_27 rfl ?_
      refine g_iload_n X 2 dX12_takes_29 rfl ?_
      obtain ⟨h10, hch10, hf⟩ := zbd hf
      refine g_callV X 2 (sX12_owns hch10) zf12 hk1 ydX12_owns w_ml_RX12_461 w_instanceMethod_X12_owns w_sel_X12_owns w_ini_RX12 w_code_X12_owns (by decide) rfl (st := []) rfl rfl (Nat.le_of_ble_eq_true rfl) dX12_takes_30 ?_
      refine g_iload X 0 dX12_takes_33 rfl ?_
      refine g_istore X [(4, .int y5), (5, .int y5), (0, .ref (base + r0)), (3, .int x3_5)] dX12_takes_35 (by decide) rfl ?_
      refine g_aload_n X 2 dX12_takes_37 rfl ?_
      obtain ⟨r_11, hr_11, hf⟩ := zbd hf
      refine g_get X zf12 hk1 31 (by decide) w_f_RX12_55 rfl (zfv_r hr_11 rfl) dX12_takes_38 ?_
      refine g_iload_n X 3 dX12_takes_41 rfl ?_
      obtain ⟨hk12, hf⟩ := zite hf
      obtain ⟨hi13, hf⟩ := zite hf
      refine g_iald X hk12 hi13 dX12_takes_42 ?_
      refine g_topi (fun y14 ey14 => ?_)
      have hf := zlet_n ey14 hf
      refine g_istore_n X [(3, .int y14), (4, .int y5), (5, .int y5), (0, .ref (base + r0))] dX12_takes_43 (by decide) rfl ?_
      refine g_goto X 5 dX12_takes_44 (by decide) ?_
      cases hf
      exact g_sub [3, 0, 1] rfl (hc0 rfl)
  · obtain ⟨ee, x3_k5, x4_k5, h_k5⟩ := qq
    have hf : kX12_takes_5 h ee x3_k5 x4_k5 h_k5 = some hE := hf
    unfold kX12_takes_5 at hf
    show zG p l e { frames := 2, cells := 0, slots := 0, locals := 45 } s m args below meth c (MQ below (zQ D cA base h hE none) args s 0 0 (zA base)) 6 D cA base h 47 [] [] h_k5
    cases hf
    exact g_vret X hr dX12_takes_47

set_option maxHeartbeats 4000000 in
set_option maxRecDepth 100000 in
theorem sX12_goesOnFrom {l : Launch} {D : va_G} {cA : Nat → ClassId} {base : Nat} {sA : Nat → Nat} {r0 : Nat} {x1 : Int32} {x2 : Int32} {x3 : Int32} {h hE : Zh} {rE : Int32} (hf : fX12_goesOnFrom r0 x1 x2 x3 h = some (rE, hE)) : zC l yX12_goesOnFrom cX12_goesOnFrom 10 (some .boolean) 3 70 D cA base sA [.ref (base + r0), .int x1, .int x2, .int x3] h (some (.int rE)) hE := by
  refine g_entry RX12 (by decide) rfl (Nat.le_of_ble_eq_true rfl) ?_
  intro p e s m args below meth c X hr
  unfold fX12_goesOnFrom at hf
  have hf := zlet_n (x := h) rfl hf
  show zG p l e { frames := 3, cells := 0, slots := 0, locals := 70 } s m args below meth c (MQ below (zQ D cA base h hE (some (.int rE))) args s 0 0 (zA base)) 10 D cA base h 0 [(0, .ref (base + r0)), (1, .int x1), (2, .int x2), (3, .int x3)] [] h
  refine g_iconst X (v := 0) dX12_goesOnFrom_0 (by decide) ?_
  refine g_istore X [(4, .int ((0 : Int32))), (0, .ref (base + r0)), (1, .int x1), (2, .int x2), (3, .int x3)] dX12_goesOnFrom_1 (by decide) rfl ?_
  refine g_sub [1, 2, 3, 4, 0] rfl ?_
  obtain ⟨qq, hlp, hf⟩ := zbd hf
  refine lp_snd (body := (fun q : Int32 × Zh => bX12_goesOnFrom_3 h r0 q.1 q.2)) (P := (fun q : Int32 × Zh => zG p l e { frames := 3, cells := 0, slots := 0, locals := 70 } s m args below meth c (MQ below (zQ D cA base h hE (some (.int rE))) args s 0 0 (zA base)) 10 D cA base h 3 [(0, .ref (base + r0)), (1, .int x1), (2, .int x2), (3, .int x3), (4, .int q.1)] [] q.2)) (E := (fun (en : Nat) (q : Int32 × Zh) => zG p l e { frames := 3, cells := 0, slots := 0, locals := 70 } s m args below meth c (MQ below (zQ D cA base h hE (some (.int rE))) args s 0 0 (zA base)) 10 D cA base h 41 [(0, .ref (base + r0)), (1, .int x1), (2, .int x2), (3, .int x3)] [] q.2)) ?_ zB ((0 : Int32), h) qq.1 qq.2 hlp ?_
  · intro q e_3 q_3 hf hc0 hc1
    obtain ⟨x4_3, h_3⟩ := q
    have hf : bX12_goesOnFrom_3 h r0 x4_3 h_3 = some (e_3, q_3) := hf
    unfold bX12_goesOnFrom_3 at hf
    show zG p l e { frames := 3, cells := 0, slots := 0, locals := 70 } s m args below meth c (MQ below (zQ D cA base h hE (some (.int rE))) args s 0 0 (zA base)) 10 D cA base h 3 [(0, .ref (base + r0)), (1, .int x1), (2, .int x2), (3, .int x3), (4, .int x4_3)] [] h_3
    refine g_iload X 4 dX12_goesOnFrom_3 rfl ?_
    refine g_aload_n X 0 dX12_goesOnFrom_5 rfl ?_
    obtain ⟨hk1, hf⟩ := zite hf
    refine g_get X zf12 hk1 17 (by decide) w_f_RX12_356 rfl rfl dX12_goesOnFrom_6 ?_
    refine g_icmp_ge X 41 dX12_goesOnFrom_9 (by decide) (fun hq => ?_) (fun hq => ?_)
    · have hf := zpos hq hf
      cases hf
      have hc1 := hc1 (by decide)
      exact g_sub [0, 1, 2, 3] rfl hc1
    · have hf := zneg hq hf
      refine g_aload_n X 0 dX12_goesOnFrom_12 rfl ?_
      obtain ⟨r_2, hr_2, hf⟩ := zbd hf
      refine g_get X zf12 hk1 31 (by decide) w_f_RX12_55 rfl (zfv_r hr_2 rfl) dX12_goesOnFrom_13 ?_
      refine g_iload X 4 dX12_goesOnFrom_16 rfl ?_
      refine g_aload_n X 0 dX12_goesOnFrom_18 rfl ?_
      obtain ⟨r_3, hr_3, hf⟩ := zbd hf
      refine g_get X zf12 hk1 32 (by decide) w_f_RX12_58 rfl (zfv_r hr_3 rfl) dX12_goesOnFrom_19 ?_
      refine g_iload X 4 dX12_goesOnFrom_22 rfl ?_
      obtain ⟨hk4, hf⟩ := zite hf
      obtain ⟨hi5, hf⟩ := zite hf
      refine g_zald X hk4 hi5 dX12_goesOnFrom_24 ?_
      refine g_if_eq X 32 dX12_goesOnFrom_25 (by decide) (fun hq => ?_) (fun hq => ?_)
      · have hf := zpos hq hf
        refine g_bipush X (v := -2) dX12_goesOnFrom_32 (by decide) ?_
        obtain ⟨hk6, hf⟩ := zite hf
        obtain ⟨hi7, hf⟩ := zite hf
        refine g_iast X hk6 hi7 dX12_goesOnFrom_34 ?_
        refine g_hp (fun h8 eh8 => ?_)
        have hf := zlet_n eh8 hf
        obtain ⟨y9, ey9⟩ : ∃ y : Int32, y = x4_3 + (1 : Int32) := ⟨_, rfl⟩
        have hf := zlet_n ey9 hf
        refine g_iinc X (j := 4) [(4, .int y9), (0, .ref (base + r0)), (1, .int x1), (2, .int x2), (3, .int x3)] dX12_goesOnFrom_35 rfl (by rw [ey9]; rfl) (by decide) rfl ?_
        refine g_goto X 3 dX12_goesOnFrom_38 (by decide) ?_
        cases hf
        exact g_sub [1, 2, 3, 4, 0] rfl (hc0 rfl)
      · have hf := zneg hq hf
        refine g_iconst X (v := -1) dX12_goesOnFrom_28 (by decide) ?_
        refine g_goto X 34 dX12_goesOnFrom_29 (by decide) ?_
        obtain ⟨hk10, hf⟩ := zite hf
        obtain ⟨hi11, hf⟩ := zite hf
        refine g_iast X hk10 hi11 dX12_goesOnFrom_34 ?_
        refine g_hp (fun h12 eh12 => ?_)
        have hf := zlet_n eh12 hf
        obtain ⟨y13, ey13⟩ : ∃ y : Int32, y = x4_3 + (1 : Int32) := ⟨_, rfl⟩
        have hf := zlet_n ey13 hf
        refine g_iinc X (j := 4) [(4, .int y13), (0, .ref (base + r0)), (1, .int x1), (2, .int x2), (3, .int x3)] dX12_goesOnFrom_35 rfl (by rw [ey13]; rfl) (by decide) rfl ?_
        refine g_goto X 3 dX12_goesOnFrom_38 (by decide) ?_
        cases hf
        exact g_sub [1, 2, 3, 4, 0] rfl (hc0 rfl)
  · obtain ⟨ee, x4_k3, h_k3⟩ := qq
    have hf : kX12_goesOnFrom_3 h r0 x1 x2 x3 ee x4_k3 h_k3 = some (rE, hE) := hf
    unfold kX12_goesOnFrom_3 at hf
    show zG p l e { frames := 3, cells := 0, slots := 0, locals := 70 } s m args below meth c (MQ below (zQ D cA base h hE (some (.int rE))) args s 0 0 (zA base)) 10 D cA base h 41 [(0, .ref (base + r0)), (1, .int x1), (2, .int x2), (3, .int x3)] [] h_k3
    refine g_iconst X (v := 1) dX12_goesOnFrom_41 (by decide) ?_
    refine g_istore X [(4, .int ((1 : Int32))), (0, .ref (base + r0)), (1, .int x1), (2, .int x2), (3, .int x3)] dX12_goesOnFrom_42 (by decide) rfl ?_
    refine g_aload_n X 1 dX12_goesOnFrom_44 rfl ?_
    obtain ⟨hk14, hf⟩ := zite hf
    obtain ⟨r_15, hr_15, hf⟩ := zbd hf
    refine g_get X zf12 hk14 30 (by decide) w_f_RX12_52 rfl (zfv_r hr_15 rfl) dX12_goesOnFrom_45 ?_
    refine g_iconst X (v := 0) dX12_goesOnFrom_48 (by decide) ?_
    refine g_iload_n X 2 dX12_goesOnFrom_49 rfl ?_
    obtain ⟨hk16, hf⟩ := zite hf
    obtain ⟨hi17, hf⟩ := zite hf
    refine g_iast X hk16 hi17 dX12_goesOnFrom_50 ?_
    refine g_hp (fun h18 eh18 => ?_)
    have hf := zlet_n eh18 hf
    refine g_aload_n X 1 dX12_goesOnFrom_51 rfl ?_
    obtain ⟨r_19, hr_19, hf⟩ := zbd hf
    refine g_get X zf12 hk14 31 (by decide) w_f_RX12_55 rfl (zfv_r hr_19 rfl) dX12_goesOnFrom_52 ?_
    refine g_iload_n X 2 dX12_goesOnFrom_55 rfl ?_
    refine g_iconst X (v := -1) dX12_goesOnFrom_56 (by decide) ?_
    obtain ⟨hk20, hf⟩ := zite hf
    obtain ⟨hi21, hf⟩ := zite hf
    refine g_iast X hk20 hi21 dX12_goesOnFrom_57 ?_
    refine g_hp (fun h22 eh22 => ?_)
    have hf := zlet_n eh22 hf
    refine g_iconst X (v := 0) dX12_goesOnFrom_58 (by decide) ?_
    refine g_istore X [(5, .int ((0 : Int32))), (4, .int ((1 : Int32))), (0, .ref (base + r0)), (1, .int x1), (2, .int x2), (3, .int x3)] dX12_goesOnFrom_59 (by decide) rfl ?_
    refine g_sub [2, 4, 5, 1, 0] rfl ?_
    obtain ⟨qq, hlp, hf⟩ := zbd hf
    refine lp_snd (body := (fun q : Int32 × Int32 × Int32 × Int32 × Zh => bX12_goesOnFrom_61 h r0 x2 x3 q.1 q.2.1 q.2.2.1 q.2.2.2.1 q.2.2.2.2)) (P := (fun q : Int32 × Int32 × Int32 × Int32 × Zh => zG p l e { frames := 3, cells := 0, slots := 0, locals := 70 } s m args below meth c (MQ below (zQ D cA base h hE (some (.int rE))) args s 0 0 (zA base)) 10 D cA base h 61 [(0, .ref (base + r0)), (2, .int x2), (3, .int x3), (4, .int q.1), (5, .int q.2.1)] [] q.2.2.2.2)) (E := (fun (en : Nat) (q : Int32 × Int32 × Int32 × Int32 × Zh) => if en = 1 then zG p l e { frames := 3, cells := 0, slots := 0, locals := 70 } s m args below meth c (MQ below (zQ D cA base h hE (some (.int rE))) args s 0 0 (zA base)) 10 D cA base h 127 [(0, .ref (base + r0)), (6, .int q.2.2.1), (8, .int q.2.2.2.1)] [] q.2.2.2.2 else zG p l e { frames := 3, cells := 0, slots := 0, locals := 70 } s m args below meth c (MQ below (zQ D cA base h hE (some (.int rE))) args s 0 0 (zA base)) 10 D cA base h 191 [(0, .ref (base + r0)), (2, .int x2), (4, .int q.1)] [] q.2.2.2.2)) ?_ zB ((1 : Int32), ((0 : Int32), (0, (0, h22)))) qq.1 qq.2 hlp ?_
    · intro q e_61 q_61 hf hc0 hc1
      obtain ⟨x4_61, x5_61, x6_61, x8_61, h_61⟩ := q
      have hf : bX12_goesOnFrom_61 h r0 x2 x3 x4_61 x5_61 x6_61 x8_61 h_61 = some (e_61, q_61) := hf
      unfold bX12_goesOnFrom_61 at hf
      show zG p l e { frames := 3, cells := 0, slots := 0, locals := 70 } s m args below meth c (MQ below (zQ D cA base h hE (some (.int rE))) args s 0 0 (zA base)) 10 D cA base h 61 [(0, .ref (base + r0)), (2, .int x2), (3, .int x3), (4, .int x4_61), (5, .int x5_61)] [] h_61
      refine g_iload X 4 dX12_goesOnFrom_61 rfl ?_
      refine g_iload X 3 dX12_goesOnFrom_63 rfl ?_
      refine g_icmp_ge X 191 dX12_goesOnFrom_65 (by decide) (fun hq => ?_) (fun hq => ?_)
      · have hf := zpos hq hf
        cases hf
        have hc1 := hc1 (by decide)
        exact g_sub [0, 1, 3] rfl (zun_n (by decide) hc1)
      · have hf := zneg hq hf
        refine g_aload_n X 0 dX12_goesOnFrom_68 rfl ?_
        obtain ⟨r_23, hr_23, hf⟩ := zbd hf
        refine g_get X zf12 hk14 30 (by decide) w_f_RX12_52 rfl (zfv_r hr_23 rfl) dX12_goesOnFrom_69 ?_
        refine g_iload X 4 dX12_goesOnFrom_72 rfl ?_
        obtain ⟨hk24, hf⟩ := zite hf
        obtain ⟨hi25, hf⟩ := zite hf
        refine g_iald X hk24 hi25 dX12_goesOnFrom_74 ?_
        refine g_topi (fun y26 ey26 => ?_)
        have hf := zlet_n ey26 hf
        refine g_istore X [(6, .int y26), (0, .ref (base + r0)), (2, .int x2), (3, .int x3), (4, .int x4_61), (5, .int x5_61)] dX12_goesOnFrom_75 (by decide) rfl ?_
        refine g_aload_n X 1 dX12_goesOnFrom_77 rfl ?_
        refine g_iload X 0 dX12_goesOnFrom_78 rfl ?_
        obtain ⟨h27, hch27, hf⟩ := zbd hf
        refine g_callV X 1 (sX12_fitsOf hch27) zf12 hk14 ydX12_fitsOf w_ml_RX12_479 w_instanceMethod_X12_fitsOf w_sel_X12_fitsOf w_ini_RX12 w_code_X12_fitsOf (by decide) rfl (st := []) rfl rfl (Nat.le_of_ble_eq_true rfl) dX12_goesOnFrom_80 ?_
        refine g_iconst X (v := 0) dX12_goesOnFrom_83 (by decide) ?_
        refine g_istore X [(7, .int ((0 : Int32))), (6, .int y26), (0, .ref (base + r0)), (2, .int x2), (3, .int x3), (4, .int x4_61), (5, .int x5_61)] dX12_goesOnFrom_84 (by decide) rfl ?_
        refine g_sub [2, 3, 4, 5, 6, 1, 0] rfl ?_
        obtain ⟨qq, hlp, hf⟩ := zbd hf
        refine lp_snd (body := (fun q : Int32 × Int32 × Int32 × Zh => bX12_goesOnFrom_86 h r0 x2 x3 y26 q.1 q.2.1 q.2.2.1 q.2.2.2)) (P := (fun q : Int32 × Int32 × Int32 × Zh => zG p l e { frames := 3, cells := 0, slots := 0, locals := 70 } s m args below meth c (MQ below (zQ D cA base h hE (some (.int rE))) args s 0 0 (zA base)) 10 D cA base h 86 [(0, .ref (base + r0)), (2, .int x2), (3, .int x3), (4, .int q.1), (5, .int x5_61), (6, .int y26), (7, .int q.2.1)] [] q.2.2.2)) (E := (fun (en : Nat) (q : Int32 × Int32 × Int32 × Zh) => if en = 1 then zG p l e { frames := 3, cells := 0, slots := 0, locals := 70 } s m args below meth c (MQ below (zQ D cA base h hE (some (.int rE))) args s 0 0 (zA base)) 10 D cA base h 127 [(0, .ref (base + r0)), (6, .int y26), (8, .int q.2.2.1)] [] q.2.2.2 else zG p l e { frames := 3, cells := 0, slots := 0, locals := 70 } s m args below meth c (MQ below (zQ D cA base h hE (some (.int rE))) args s 0 0 (zA base)) 10 D cA base h 185 [(0, .ref (base + r0)), (2, .int x2), (3, .int x3), (4, .int q.1), (5, .int x5_61)] [] q.2.2.2)) ?_ zB (x4_61, ((0 : Int32), (0, h27))) qq.1 qq.2 hlp ?_
        · intro q e_86 q_86 hf hc0 hc1
          obtain ⟨x4_86, x7_86, x8_86, h_86⟩ := q
          have hf : bX12_goesOnFrom_86 h r0 x2 x3 y26 x4_86 x7_86 x8_86 h_86 = some (e_86, q_86) := hf
          unfold bX12_goesOnFrom_86 at hf
          show zG p l e { frames := 3, cells := 0, slots := 0, locals := 70 } s m args below meth c (MQ below (zQ D cA base h hE (some (.int rE))) args s 0 0 (zA base)) 10 D cA base h 86 [(0, .ref (base + r0)), (2, .int x2), (3, .int x3), (4, .int x4_86), (5, .int x5_61), (6, .int y26), (7, .int x7_86)] [] h_86
          refine g_iload X 6 dX12_goesOnFrom_86 rfl ?_
          refine g_aload_n X 0 dX12_goesOnFrom_88 rfl ?_
          refine g_get X zf12 hk14 22 (by decide) w_f_RX12_400 rfl rfl dX12_goesOnFrom_89 ?_
          refine g_icmp_ge X 185 dX12_goesOnFrom_92 (by decide) (fun hq => ?_) (fun hq => ?_)
          · have hf := zpos hq hf
            cases hf
            have hc1 := hc1 (by decide)
            exact g_sub [0, 1, 2, 3, 4] rfl (zun_n (by decide) hc1)
          · have hf := zneg hq hf
            refine g_aload_n X 0 dX12_goesOnFrom_95 rfl ?_
            obtain ⟨r_28, hr_28, hf⟩ := zbd hf
            refine g_get X zf12 hk14 21 (by decide) w_f_RX12_30 rfl (zfv_r hr_28 rfl) dX12_goesOnFrom_96 ?_
            refine g_iload X 6 dX12_goesOnFrom_99 rfl ?_
            obtain ⟨hk29, hf⟩ := zite hf
            obtain ⟨hi30, hf⟩ := zite hf
            refine g_iald X hk29 hi30 dX12_goesOnFrom_101 ?_
            refine g_topi (fun y31 ey31 => ?_)
            have hf := zlet_n ey31 hf
            refine g_istore X [(8, .int y31), (0, .ref (base + r0)), (2, .int x2), (3, .int x3), (4, .int x4_86), (5, .int x5_61), (6, .int y26), (7, .int x7_86)] dX12_goesOnFrom_102 (by decide) rfl ?_
            refine g_iload X 0 dX12_goesOnFrom_104 rfl ?_
            refine g_iload_n X 3 dX12_goesOnFrom_106 rfl ?_
            refine g_icmp_ne X 113 dX12_goesOnFrom_107 (by decide) (fun hq => ?_) (fun hq => ?_)
            · have hf := zneg hq hf
              refine g_aload_n X 1 dX12_goesOnFrom_113 rfl ?_
              refine g_iload X 0 dX12_goesOnFrom_114 rfl ?_
              obtain ⟨v33, h32, hch32, hf⟩ := zc2_e hf
              refine g_callV X 1 (sX12_ownerOf hch32) zf12 hk14 ydX12_ownerOf w_ml_RX12_470 w_instanceMethod_X12_ownerOf w_sel_X12_ownerOf w_ini_RX12 w_code_X12_ownerOf (by decide) rfl (st := []) rfl rfl (Nat.le_of_ble_eq_true rfl) dX12_goesOnFrom_116 ?_
              refine g_istore X [(9, .int v33), (8, .int y31), (0, .ref (base + r0)), (2, .int x2), (3, .int x3), (4, .int x4_86), (5, .int x5_61), (6, .int y26), (7, .int x7_86)] dX12_goesOnFrom_119 (by decide) rfl ?_
              refine g_iload X 0 dX12_goesOnFrom_121 rfl ?_
              refine g_iconst X (v := -1) dX12_goesOnFrom_123 (by decide) ?_
              refine g_icmp_ne X 137 dX12_goesOnFrom_124 (by decide) (fun hq => ?_) (fun hq => ?_)
              · have hf := zneg hq hf
                refine g_iload X 0 dX12_goesOnFrom_137 rfl ?_
                refine g_iload_n X 3 dX12_goesOnFrom_139 rfl ?_
                refine g_icmp_lt X 179 dX12_goesOnFrom_140 (by decide) (fun hq => ?_) (fun hq => ?_)
                · have hf := zpos hq hf
                  obtain ⟨y34, ey34⟩ : ∃ y : Int32, y = x7_86 + (1 : Int32) := ⟨_, rfl⟩
                  have hf := zlet_n ey34 hf
                  refine g_iinc X (j := 8) [(7, .int y34), (9, .int v33), (8, .int y31), (0, .ref (base + r0)), (2, .int x2), (3, .int x3), (4, .int x4_86), (5, .int x5_61), (6, .int y26)] dX12_goesOnFrom_179 rfl (by rw [ey34]; rfl) (by decide) rfl ?_
                  refine g_goto X 86 dX12_goesOnFrom_182 (by decide) ?_
                  cases hf
                  exact g_sub [3, 4, 5, 6, 7, 8, 0] rfl (hc0 rfl)
                · have hf := zneg hq hf
                  refine g_aload_n X 2 dX12_goesOnFrom_143 rfl ?_
                  obtain ⟨r_35, hr_35, hf⟩ := zbd hf
                  refine g_get X zf12 hk14 31 (by decide) w_f_RX12_55 rfl (zfv_r hr_35 rfl) dX12_goesOnFrom_144 ?_
                  refine g_iload X 0 dX12_goesOnFrom_147 rfl ?_
                  obtain ⟨hk36, hf⟩ := zite hf
                  obtain ⟨hi37, hf⟩ := zite hf
                  refine g_iald X hk36 hi37 dX12_goesOnFrom_149 ?_
                  refine g_bipush X (v := -2) dX12_goesOnFrom_150 (by decide) ?_
                  refine g_icmp_eq X 158 dX12_goesOnFrom_152 (by decide) (fun hq => ?_) (fun hq => ?_)
                  · have hf := zpos hq hf
                    refine g_aload_n X 2 dX12_goesOnFrom_158 rfl ?_
                    obtain ⟨r_38, hr_38, hf⟩ := zbd hf
                    refine g_get X zf12 hk14 31 (by decide) w_f_RX12_55 rfl (zfv_r hr_38 rfl) dX12_goesOnFrom_159 ?_
                    refine g_iload X 0 dX12_goesOnFrom_162 rfl ?_
                    refine g_iload X 7 dX12_goesOnFrom_164 rfl ?_
                    obtain ⟨hk39, hf⟩ := zite hf
                    obtain ⟨hi40, hf⟩ := zite hf
                    refine g_iast X hk39 hi40 dX12_goesOnFrom_166 ?_
                    refine g_hp (fun h41 eh41 => ?_)
                    have hf := zlet_n eh41 hf
                    refine g_aload_n X 2 dX12_goesOnFrom_167 rfl ?_
                    obtain ⟨r_42, hr_42, hf⟩ := zbd hf
                    refine g_get X zf12 hk14 30 (by decide) w_f_RX12_52 rfl (zfv_r hr_42 rfl) dX12_goesOnFrom_168 ?_
                    refine g_iload X 5 dX12_goesOnFrom_171 rfl ?_
                    refine g_iload X 0 dX12_goesOnFrom_173 rfl ?_
                    obtain ⟨hk43, hf⟩ := zite hf
                    obtain ⟨hi44, hf⟩ := zite hf
                    refine g_iast X hk43 hi44 dX12_goesOnFrom_175 ?_
                    refine g_hp (fun h45 eh45 => ?_)
                    have hf := zlet_n eh45 hf
                    obtain ⟨y46, ey46⟩ : ∃ y : Int32, y = x4_86 + (1 : Int32) := ⟨_, rfl⟩
                    have hf := zlet_n ey46 hf
                    refine g_iinc X (j := 5) [(4, .int y46), (9, .int v33), (8, .int y31), (0, .ref (base + r0)), (2, .int x2), (3, .int x3), (5, .int x5_61), (6, .int y26), (7, .int x7_86)] dX12_goesOnFrom_176 rfl (by rw [ey46]; rfl) (by decide) rfl ?_
                    obtain ⟨y47, ey47⟩ : ∃ y : Int32, y = x7_86 + (1 : Int32) := ⟨_, rfl⟩
                    have hf := zlet_n ey47 hf
                    refine g_iinc X (j := 8) [(7, .int y47), (4, .int y46), (9, .int v33), (8, .int y31), (0, .ref (base + r0)), (2, .int x2), (3, .int x3), (5, .int x5_61), (6, .int y26)] dX12_goesOnFrom_179 rfl (by rw [ey47]; rfl) (by decide) rfl ?_
                    refine g_goto X 86 dX12_goesOnFrom_182 (by decide) ?_
                    cases hf
                    exact g_sub [4, 5, 6, 1, 7, 8, 0] rfl (hc0 rfl)
                  · have hf := zneg hq hf
                    refine g_goto X 179 dX12_goesOnFrom_155 (by decide) ?_
                    obtain ⟨y48, ey48⟩ : ∃ y : Int32, y = x7_86 + (1 : Int32) := ⟨_, rfl⟩
                    have hf := zlet_n ey48 hf
                    refine g_iinc X (j := 8) [(7, .int y48), (9, .int v33), (8, .int y31), (0, .ref (base + r0)), (2, .int x2), (3, .int x3), (4, .int x4_86), (5, .int x5_61), (6, .int y26)] dX12_goesOnFrom_179 rfl (by rw [ey48]; rfl) (by decide) rfl ?_
                    refine g_goto X 86 dX12_goesOnFrom_182 (by decide) ?_
                    cases hf
                    exact g_sub [3, 4, 5, 6, 7, 8, 0] rfl (hc0 rfl)
              · have hf := zpos hq hf
                cases hf
                have hc1 := hc1 (by decide)
                exact g_sub [2, 7, 1] rfl (zun_p rfl hc1)
            · have hf := zpos hq hf
              refine g_goto X 179 dX12_goesOnFrom_110 (by decide) ?_
              obtain ⟨y49, ey49⟩ : ∃ y : Int32, y = x7_86 + (1 : Int32) := ⟨_, rfl⟩
              have hf := zlet_n ey49 hf
              refine g_iinc X (j := 7) [(7, .int y49), (8, .int y31), (0, .ref (base + r0)), (2, .int x2), (3, .int x3), (4, .int x4_86), (5, .int x5_61), (6, .int y26)] dX12_goesOnFrom_179 rfl (by rw [ey49]; rfl) (by decide) rfl ?_
              refine g_goto X 86 dX12_goesOnFrom_182 (by decide) ?_
              cases hf
              exact g_sub [2, 3, 4, 5, 6, 7, 0] rfl (hc0 rfl)
        · obtain ⟨ee, x4_k86, x7_k86, x8_k86, h_k86⟩ := qq
          have hf : kX12_goesOnFrom_86 h r0 x2 x3 x5_61 y26 ee x4_k86 x7_k86 x8_k86 h_k86 = some (e_61, q_61) := hf
          unfold kX12_goesOnFrom_86 at hf
          by_cases hee0 : ee = 1
          · have hf := zpos hee0 hf
            refine zifp hee0 ?_
            show zG p l e { frames := 3, cells := 0, slots := 0, locals := 70 } s m args below meth c (MQ below (zQ D cA base h hE (some (.int rE))) args s 0 0 (zA base)) 10 D cA base h 127 [(0, .ref (base + r0)), (6, .int y26), (8, .int x8_k86)] [] h_k86
            cases hf
            have hc1 := hc1 (by decide)
            exact g_sub [0, 1, 2] rfl (zun_p rfl hc1)
          have hf := zneg hee0 hf
          refine zifn hee0 ?_
          show zG p l e { frames := 3, cells := 0, slots := 0, locals := 70 } s m args below meth c (MQ below (zQ D cA base h hE (some (.int rE))) args s 0 0 (zA base)) 10 D cA base h 185 [(0, .ref (base + r0)), (2, .int x2), (3, .int x3), (4, .int x4_k86), (5, .int x5_61)] [] h_k86
          obtain ⟨y50, ey50⟩ : ∃ y : Int32, y = x5_61 + (1 : Int32) := ⟨_, rfl⟩
          have hf := zlet_n ey50 hf
          refine g_iinc X (j := 4) [(5, .int y50), (0, .ref (base + r0)), (2, .int x2), (3, .int x3), (4, .int x4_k86)] dX12_goesOnFrom_185 rfl (by rw [ey50]; rfl) (by decide) rfl ?_
          refine g_goto X 61 dX12_goesOnFrom_188 (by decide) ?_
          cases hf
          exact g_sub [1, 2, 3, 4, 0] rfl (hc0 rfl)
    · obtain ⟨ee, x4_k61, x5_k61, x6_k61, x8_k61, h_k61⟩ := qq
      have hf : kX12_goesOnFrom_61 h r0 x2 ee x4_k61 x5_k61 x6_k61 x8_k61 h_k61 = some (rE, hE) := hf
      unfold kX12_goesOnFrom_61 at hf
      by_cases hee0 : ee = 1
      · have hf := zpos hee0 hf
        refine zifp hee0 ?_
        show zG p l e { frames := 3, cells := 0, slots := 0, locals := 70 } s m args below meth c (MQ below (zQ D cA base h hE (some (.int rE))) args s 0 0 (zA base)) 10 D cA base h 127 [(0, .ref (base + r0)), (6, .int x6_k61), (8, .int x8_k61)] [] h_k61
        refine g_aload_n X 0 dX12_goesOnFrom_127 rfl ?_
        refine g_iload X 1 dX12_goesOnFrom_128 rfl ?_
        refine g_iload X 2 dX12_goesOnFrom_130 rfl ?_
        obtain ⟨h51, hch51, hf⟩ := zbd hf
        refine g_callV X 2 (sX12_takes hch51) zf12 hk14 ydX12_takes w_ml_RX12_482 w_instanceMethod_X12_takes w_sel_X12_takes w_ini_RX12 w_code_X12_takes (by decide) rfl (st := []) rfl rfl (Nat.le_of_ble_eq_true rfl) dX12_goesOnFrom_132 ?_
        refine g_iconst X (v := 1) dX12_goesOnFrom_135 (by decide) ?_
        obtain ⟨rfl, rfl⟩ := zsm hf
        exact g_zret X (Or.inr rfl) hr dX12_goesOnFrom_136
      have hf := zneg hee0 hf
      refine zifn hee0 ?_
      show zG p l e { frames := 3, cells := 0, slots := 0, locals := 70 } s m args below meth c (MQ below (zQ D cA base h hE (some (.int rE))) args s 0 0 (zA base)) 10 D cA base h 191 [(0, .ref (base + r0)), (2, .int x2), (4, .int x4_k61)] [] h_k61
      refine g_iconst X (v := 0) dX12_goesOnFrom_191 (by decide) ?_
      refine g_istore X [(5, .int ((0 : Int32))), (0, .ref (base + r0)), (2, .int x2), (4, .int x4_k61)] dX12_goesOnFrom_192 (by decide) rfl ?_
      refine g_sub [1, 2, 3, 0] rfl ?_
      obtain ⟨qq, hlp, hf⟩ := zbd hf
      refine lp_snd (body := (fun q : Int32 × Zh => bX12_goesOnFrom_194 h r0 x2 x4_k61 q.1 q.2)) (P := (fun q : Int32 × Zh => zG p l e { frames := 3, cells := 0, slots := 0, locals := 70 } s m args below meth c (MQ below (zQ D cA base h hE (some (.int rE))) args s 0 0 (zA base)) 10 D cA base h 194 [(0, .ref (base + r0)), (2, .int x2), (4, .int x4_k61), (5, .int q.1)] [] q.2)) (E := (fun (en : Nat) (q : Int32 × Zh) => zG p l e { frames := 3, cells := 0, slots := 0, locals := 70 } s m args below meth c (MQ below (zQ D cA base h hE (some (.int rE))) args s 0 0 (zA base)) 10 D cA base h 224 [] [] q.2)) ?_ zB ((0 : Int32), h_k61) qq.1 qq.2 hlp ?_
      · intro q e_194 q_194 hf hc0 hc1
        obtain ⟨x5_194, h_194⟩ := q
        have hf : bX12_goesOnFrom_194 h r0 x2 x4_k61 x5_194 h_194 = some (e_194, q_194) := hf
        unfold bX12_goesOnFrom_194 at hf
        show zG p l e { frames := 3, cells := 0, slots := 0, locals := 70 } s m args below meth c (MQ below (zQ D cA base h hE (some (.int rE))) args s 0 0 (zA base)) 10 D cA base h 194 [(0, .ref (base + r0)), (2, .int x2), (4, .int x4_k61), (5, .int x5_194)] [] h_194
        refine g_iload X 3 dX12_goesOnFrom_194 rfl ?_
        refine g_iload X 2 dX12_goesOnFrom_196 rfl ?_
        refine g_icmp_ge X 224 dX12_goesOnFrom_198 (by decide) (fun hq => ?_) (fun hq => ?_)
        · have hf := zpos hq hf
          cases hf
          have hc1 := hc1 (by decide)
          exact g_sub [] rfl hc1
        · have hf := zneg hq hf
          refine g_iload_n X 1 dX12_goesOnFrom_201 rfl ?_
          refine g_if_ne X 224 dX12_goesOnFrom_202 (by decide) (fun hq => ?_) (fun hq => ?_)
          · have hf := zneg hq hf
            cases hf
            have hc1 := hc1 (by decide)
            exact g_sub [] rfl hc1
          · have hf := zpos hq hf
            refine g_aload_n X 0 dX12_goesOnFrom_205 rfl ?_
            obtain ⟨r_52, hr_52, hf⟩ := zbd hf
            refine g_get X zf12 hk14 32 (by decide) w_f_RX12_58 rfl (zfv_r hr_52 rfl) dX12_goesOnFrom_206 ?_
            refine g_aload_n X 0 dX12_goesOnFrom_209 rfl ?_
            obtain ⟨r_53, hr_53, hf⟩ := zbd hf
            refine g_get X zf12 hk14 30 (by decide) w_f_RX12_52 rfl (zfv_r hr_53 rfl) dX12_goesOnFrom_210 ?_
            refine g_iload X 3 dX12_goesOnFrom_213 rfl ?_
            obtain ⟨hk54, hf⟩ := zite hf
            obtain ⟨hi55, hf⟩ := zite hf
            refine g_iald X hk54 hi55 dX12_goesOnFrom_215 ?_
            refine g_iconst X (v := 1) dX12_goesOnFrom_216 (by decide) ?_
            obtain ⟨hk56, hf⟩ := zite hf
            obtain ⟨hi57, hf⟩ := zite hf
            refine g_zast X hk56 hi57 (Or.inr rfl) dX12_goesOnFrom_217 ?_
            refine g_hp (fun h58 eh58 => ?_)
            have hf := zlet_n eh58 hf
            obtain ⟨y59, ey59⟩ : ∃ y : Int32, y = x5_194 + (1 : Int32) := ⟨_, rfl⟩
            have hf := zlet_n ey59 hf
            refine g_iinc X (j := 3) [(5, .int y59), (0, .ref (base + r0)), (2, .int x2), (4, .int x4_k61)] dX12_goesOnFrom_218 rfl (by rw [ey59]; rfl) (by decide) rfl ?_
            refine g_goto X 194 dX12_goesOnFrom_221 (by decide) ?_
            cases hf
            exact g_sub [1, 2, 3, 0] rfl (hc0 rfl)
      · obtain ⟨ee, x5_k194, h_k194⟩ := qq
        have hf : kX12_goesOnFrom_194 h ee x5_k194 h_k194 = some (rE, hE) := hf
        unfold kX12_goesOnFrom_194 at hf
        show zG p l e { frames := 3, cells := 0, slots := 0, locals := 70 } s m args below meth c (MQ below (zQ D cA base h hE (some (.int rE))) args s 0 0 (zA base)) 10 D cA base h 224 [] [] h_k194
        refine g_iconst X (v := 0) dX12_goesOnFrom_224 (by decide) ?_
        obtain ⟨rfl, rfl⟩ := zsm hf
        exact g_zret X (Or.inl rfl) hr dX12_goesOnFrom_225

set_option maxHeartbeats 4000000 in
set_option maxRecDepth 100000 in
theorem sX12_pairsNow {l : Launch} {D : va_G} {cA : Nat → ClassId} {base : Nat} {sA : Nat → Nat} {r0 : Nat} {h hE : Zh} {rE : Int32} (hf : fX12_pairsNow r0 h = some (rE, hE)) : zC l yX12_pairsNow cX12_pairsNow 3 (some .int) 4 99 D cA base sA [.ref (base + r0)] h (some (.int rE)) hE := by
  refine g_entry RX12 (by decide) rfl (Nat.le_of_ble_eq_true rfl) ?_
  intro p e s m args below meth c X hr
  unfold fX12_pairsNow at hf
  have hf := zlet_n (x := h) rfl hf
  show zG p l e { frames := 4, cells := 0, slots := 0, locals := 99 } s m args below meth c (MQ below (zQ D cA base h hE (some (.int rE))) args s 0 0 (zA base)) 3 D cA base h 0 [(0, .ref (base + r0))] [] h
  refine g_aload_n X 0 dX12_pairsNow_0 rfl ?_
  obtain ⟨hk1, hf⟩ := zite hf
  obtain ⟨h2, hch2, hf⟩ := zbd hf
  refine g_callV X 0 (sX12_clearOwners hch2) zf12 hk1 ydX12_clearOwners w_ml_RX12_458 w_instanceMethod_X12_clearOwners w_sel_X12_clearOwners w_ini_RX12 w_code_X12_clearOwners (by decide) rfl (st := []) rfl rfl (Nat.le_of_ble_eq_true rfl) dX12_pairsNow_1 ?_
  refine g_iconst X (v := 0) dX12_pairsNow_4 (by decide) ?_
  refine g_istore_n X [(1, .int ((0 : Int32))), (0, .ref (base + r0))] dX12_pairsNow_5 (by decide) rfl ?_
  refine g_iconst X (v := 0) dX12_pairsNow_6 (by decide) ?_
  refine g_istore_n X [(2, .int ((0 : Int32))), (1, .int ((0 : Int32))), (0, .ref (base + r0))] dX12_pairsNow_7 (by decide) rfl ?_
  refine g_sub [2, 1, 0] rfl ?_
  obtain ⟨qq, hlp, hf⟩ := zbd hf
  refine lp_snd (body := (fun q : Int32 × Zh => bX12_pairsNow_8 h r0 q.1 q.2)) (P := (fun q : Int32 × Zh => zG p l e { frames := 4, cells := 0, slots := 0, locals := 99 } s m args below meth c (MQ below (zQ D cA base h hE (some (.int rE))) args s 0 0 (zA base)) 3 D cA base h 8 [(0, .ref (base + r0)), (1, .int ((0 : Int32))), (2, .int q.1)] [] q.2)) (E := (fun (en : Nat) (q : Int32 × Zh) => zG p l e { frames := 4, cells := 0, slots := 0, locals := 99 } s m args below meth c (MQ below (zQ D cA base h hE (some (.int rE))) args s 0 0 (zA base)) 3 D cA base h 36 [(0, .ref (base + r0)), (1, .int ((0 : Int32)))] [] q.2)) ?_ zB ((0 : Int32), h2) qq.1 qq.2 hlp ?_
  · intro q e_8 q_8 hf hc0 hc1
    obtain ⟨x2_8, h_8⟩ := q
    have hf : bX12_pairsNow_8 h r0 x2_8 h_8 = some (e_8, q_8) := hf
    unfold bX12_pairsNow_8 at hf
    show zG p l e { frames := 4, cells := 0, slots := 0, locals := 99 } s m args below meth c (MQ below (zQ D cA base h hE (some (.int rE))) args s 0 0 (zA base)) 3 D cA base h 8 [(0, .ref (base + r0)), (1, .int ((0 : Int32))), (2, .int x2_8)] [] h_8
    refine g_iload_n X 2 dX12_pairsNow_8 rfl ?_
    refine g_aload_n X 0 dX12_pairsNow_9 rfl ?_
    refine g_get X zf12 hk1 17 (by decide) w_f_RX12_356 rfl rfl dX12_pairsNow_10 ?_
    refine g_icmp_ge X 36 dX12_pairsNow_13 (by decide) (fun hq => ?_) (fun hq => ?_)
    · have hf := zpos hq hf
      cases hf
      have hc1 := hc1 (by decide)
      exact g_sub [0, 1] rfl hc1
    · have hf := zneg hq hf
      refine g_aload_n X 0 dX12_pairsNow_16 rfl ?_
      obtain ⟨r_3, hr_3, hf⟩ := zbd hf
      refine g_get X zf12 hk1 29 (by decide) w_f_RX12_49 rfl (zfv_r hr_3 rfl) dX12_pairsNow_17 ?_
      refine g_iload_n X 2 dX12_pairsNow_20 rfl ?_
      refine g_iconst X (v := -1) dX12_pairsNow_21 (by decide) ?_
      obtain ⟨hk4, hf⟩ := zite hf
      obtain ⟨hi5, hf⟩ := zite hf
      refine g_iast X hk4 hi5 dX12_pairsNow_22 ?_
      refine g_hp (fun h6 eh6 => ?_)
      have hf := zlet_n eh6 hf
      refine g_aload_n X 0 dX12_pairsNow_23 rfl ?_
      obtain ⟨r_7, hr_7, hf⟩ := zbd hf
      refine g_get X zf12 hk1 32 (by decide) w_f_RX12_58 rfl (zfv_r hr_7 rfl) dX12_pairsNow_24 ?_
      refine g_iload_n X 2 dX12_pairsNow_27 rfl ?_
      refine g_iconst X (v := 0) dX12_pairsNow_28 (by decide) ?_
      obtain ⟨hk8, hf⟩ := zite hf
      obtain ⟨hi9, hf⟩ := zite hf
      refine g_zast X hk8 hi9 (Or.inl rfl) dX12_pairsNow_29 ?_
      refine g_hp (fun h10 eh10 => ?_)
      have hf := zlet_n eh10 hf
      obtain ⟨y11, ey11⟩ : ∃ y : Int32, y = x2_8 + (1 : Int32) := ⟨_, rfl⟩
      have hf := zlet_n ey11 hf
      refine g_iinc X (j := 2) [(2, .int y11), (0, .ref (base + r0)), (1, .int ((0 : Int32)))] dX12_pairsNow_30 rfl (by rw [ey11]; rfl) (by decide) rfl ?_
      refine g_goto X 8 dX12_pairsNow_33 (by decide) ?_
      cases hf
      exact g_sub [1, 2, 0] rfl (hc0 rfl)
  · obtain ⟨ee, x2_k8, h_k8⟩ := qq
    have hf : kX12_pairsNow_8 h r0 ((0 : Int32)) ee x2_k8 h_k8 = some (rE, hE) := hf
    unfold kX12_pairsNow_8 at hf
    show zG p l e { frames := 4, cells := 0, slots := 0, locals := 99 } s m args below meth c (MQ below (zQ D cA base h hE (some (.int rE))) args s 0 0 (zA base)) 3 D cA base h 36 [(0, .ref (base + r0)), (1, .int ((0 : Int32)))] [] h_k8
    refine g_iconst X (v := 0) dX12_pairsNow_36 (by decide) ?_
    refine g_istore_n X [(2, .int ((0 : Int32))), (0, .ref (base + r0)), (1, .int ((0 : Int32)))] dX12_pairsNow_37 (by decide) rfl ?_
    refine g_sub [1, 2, 0] rfl ?_
    obtain ⟨qq, hlp, hf⟩ := zbd hf
    refine lp_snd (body := (fun q : Int32 × Int32 × Zh => bX12_pairsNow_38 h r0 q.1 q.2.1 q.2.2)) (P := (fun q : Int32 × Int32 × Zh => zG p l e { frames := 4, cells := 0, slots := 0, locals := 99 } s m args below meth c (MQ below (zQ D cA base h hE (some (.int rE))) args s 0 0 (zA base)) 3 D cA base h 38 [(0, .ref (base + r0)), (1, .int q.1), (2, .int q.2.1)] [] q.2.2)) (E := (fun (en : Nat) (q : Int32 × Int32 × Zh) => zG p l e { frames := 4, cells := 0, slots := 0, locals := 99 } s m args below meth c (MQ below (zQ D cA base h hE (some (.int rE))) args s 0 0 (zA base)) 3 D cA base h 70 [(1, .int q.1)] [] q.2.2)) ?_ zB ((0 : Int32), ((0 : Int32), h_k8)) qq.1 qq.2 hlp ?_
    · intro q e_38 q_38 hf hc0 hc1
      obtain ⟨x1_38, x2_38, h_38⟩ := q
      have hf : bX12_pairsNow_38 h r0 x1_38 x2_38 h_38 = some (e_38, q_38) := hf
      unfold bX12_pairsNow_38 at hf
      show zG p l e { frames := 4, cells := 0, slots := 0, locals := 99 } s m args below meth c (MQ below (zQ D cA base h hE (some (.int rE))) args s 0 0 (zA base)) 3 D cA base h 38 [(0, .ref (base + r0)), (1, .int x1_38), (2, .int x2_38)] [] h_38
      refine g_iload_n X 2 dX12_pairsNow_38 rfl ?_
      refine g_aload_n X 0 dX12_pairsNow_39 rfl ?_
      refine g_get X zf12 hk1 17 (by decide) w_f_RX12_356 rfl rfl dX12_pairsNow_40 ?_
      refine g_icmp_ge X 70 dX12_pairsNow_43 (by decide) (fun hq => ?_) (fun hq => ?_)
      · have hf := zpos hq hf
        cases hf
        have hc1 := hc1 (by decide)
        exact g_sub [1] rfl hc1
      · have hf := zneg hq hf
        refine g_iload_n X 1 dX12_pairsNow_46 rfl ?_
        refine g_aload_n X 0 dX12_pairsNow_47 rfl ?_
        refine g_iload_n X 2 dX12_pairsNow_48 rfl ?_
        refine g_iconst X (v := 0) dX12_pairsNow_49 (by decide) ?_
        refine g_iconst X (v := -1) dX12_pairsNow_50 (by decide) ?_
        obtain ⟨v13, h12, hch12, hf⟩ := zc2_e hf
        refine g_callV X 3 (sX12_goesOnFrom hch12) zf12 hk1 ydX12_goesOnFrom w_ml_RX12_485 w_instanceMethod_X12_goesOnFrom w_sel_X12_goesOnFrom w_ini_RX12 w_code_X12_goesOnFrom (by decide) rfl (st := [.int x1_38]) rfl rfl (Nat.le_of_ble_eq_true rfl) dX12_pairsNow_51 ?_
        refine g_if_eq X 61 dX12_pairsNow_54 (by decide) (fun hq => ?_) (fun hq => ?_)
        · have hf := zpos hq hf
          refine g_iconst X (v := 0) dX12_pairsNow_61 (by decide) ?_
          refine g_iadd X dX12_pairsNow_62 ?_
          refine g_topi (fun y14 ey14 => ?_)
          have hf := zlet_n ey14 hf
          refine g_istore_n X [(1, .int y14), (0, .ref (base + r0)), (2, .int x2_38)] dX12_pairsNow_63 (by decide) rfl ?_
          obtain ⟨y15, ey15⟩ : ∃ y : Int32, y = x2_38 + (1 : Int32) := ⟨_, rfl⟩
          have hf := zlet_n ey15 hf
          refine g_iinc X (j := 2) [(2, .int y15), (1, .int y14), (0, .ref (base + r0))] dX12_pairsNow_64 rfl (by rw [ey15]; rfl) (by decide) rfl ?_
          refine g_goto X 38 dX12_pairsNow_67 (by decide) ?_
          cases hf
          exact g_sub [2, 1, 0] rfl (hc0 rfl)
        · have hf := zneg hq hf
          refine g_iconst X (v := 1) dX12_pairsNow_57 (by decide) ?_
          refine g_goto X 62 dX12_pairsNow_58 (by decide) ?_
          refine g_iadd X dX12_pairsNow_62 ?_
          refine g_topi (fun y16 ey16 => ?_)
          have hf := zlet_n ey16 hf
          refine g_istore_n X [(1, .int y16), (0, .ref (base + r0)), (2, .int x2_38)] dX12_pairsNow_63 (by decide) rfl ?_
          obtain ⟨y17, ey17⟩ : ∃ y : Int32, y = x2_38 + (1 : Int32) := ⟨_, rfl⟩
          have hf := zlet_n ey17 hf
          refine g_iinc X (j := 2) [(2, .int y17), (1, .int y16), (0, .ref (base + r0))] dX12_pairsNow_64 rfl (by rw [ey17]; rfl) (by decide) rfl ?_
          refine g_goto X 38 dX12_pairsNow_67 (by decide) ?_
          cases hf
          exact g_sub [2, 1, 0] rfl (hc0 rfl)
    · obtain ⟨ee, x1_k38, x2_k38, h_k38⟩ := qq
      have hf : kX12_pairsNow_38 h ee x1_k38 x2_k38 h_k38 = some (rE, hE) := hf
      unfold kX12_pairsNow_38 at hf
      show zG p l e { frames := 4, cells := 0, slots := 0, locals := 99 } s m args below meth c (MQ below (zQ D cA base h hE (some (.int rE))) args s 0 0 (zA base)) 3 D cA base h 70 [(1, .int x1_k38)] [] h_k38
      refine g_iload_n X 0 dX12_pairsNow_70 rfl ?_
      obtain ⟨rfl, rfl⟩ := zsm hf
      exact g_iret X hr dX12_pairsNow_71

set_option maxHeartbeats 4000000 in
set_option maxRecDepth 100000 in
theorem sX12_settles {l : Launch} {D : va_G} {cA : Nat → ClassId} {base : Nat} {sA : Nat → Nat} {r0 : Nat} {x1 : Int32} {x2 : Int32} {h hE : Zh} {rE : Int32} (hf : fX12_settles r0 x1 x2 h = some (rE, hE)) : zC l yX12_settles cX12_settles 5 (some .boolean) 4 99 D cA base sA [.ref (base + r0), .int x1, .int x2] h (some (.int rE)) hE := by
  refine g_entry RX12 (by decide) rfl (Nat.le_of_ble_eq_true rfl) ?_
  intro p e s m args below meth c X hr
  unfold fX12_settles at hf
  have hf := zlet_n (x := h) rfl hf
  show zG p l e { frames := 4, cells := 0, slots := 0, locals := 99 } s m args below meth c (MQ below (zQ D cA base h hE (some (.int rE))) args s 0 0 (zA base)) 5 D cA base h 0 [(0, .ref (base + r0)), (1, .int x1), (2, .int x2)] [] h
  refine g_aload_n X 0 dX12_settles_0 rfl ?_
  obtain ⟨hk1, hf⟩ := zite hf
  obtain ⟨r_2, hr_2, hf⟩ := zbd hf
  refine g_get X zf12 hk1 29 (by decide) w_f_RX12_49 rfl (zfv_r hr_2 rfl) dX12_settles_1 ?_
  refine g_iload_n X 1 dX12_settles_4 rfl ?_
  obtain ⟨hk3, hf⟩ := zite hf
  obtain ⟨hi4, hf⟩ := zite hf
  refine g_iald X hk3 hi4 dX12_settles_5 ?_
  refine g_topi (fun y5 ey5 => ?_)
  have hf := zlet_n ey5 hf
  refine g_istore_n X [(3, .int y5), (0, .ref (base + r0)), (1, .int x1), (2, .int x2)] dX12_settles_6 (by decide) rfl ?_
  refine g_iload_n X 3 dX12_settles_7 rfl ?_
  refine g_iload_n X 0 dX12_settles_8 rfl ?_
  refine g_icmp_ne X 14 dX12_settles_9 (by decide) (fun hq => ?_) (fun hq => ?_)
  · have hf := zneg hq hf
    refine g_aload_n X 1 dX12_settles_14 rfl ?_
    refine g_iload_n X 3 dX12_settles_15 rfl ?_
    obtain ⟨v7, h6, hch6, hf⟩ := zc2_e hf
    refine g_callV X 1 (sX12_ownerOf hch6) zf12 hk1 ydX12_ownerOf w_ml_RX12_470 w_instanceMethod_X12_ownerOf w_sel_X12_ownerOf w_ini_RX12 w_code_X12_ownerOf (by decide) rfl (st := []) rfl rfl (Nat.le_of_ble_eq_true rfl) dX12_settles_16 ?_
    refine g_istore X [(4, .int v7), (3, .int y5), (0, .ref (base + r0)), (1, .int x1), (2, .int x2)] dX12_settles_19 (by decide) rfl ?_
    refine g_iload X 0 dX12_settles_21 rfl ?_
    refine g_iconst X (v := -1) dX12_settles_23 (by decide) ?_
    have hJ35 : ∀ (x3_35 : Int32) (x4_35 : Int32) (h_35 : Zh), jX12_settles_35 h r0 x1 x2 x3_35 x4_35 h_35 = some (rE, hE) → zG p l e { frames := 4, cells := 0, slots := 0, locals := 99 } s m args below meth c (MQ below (zQ D cA base h hE (some (.int rE))) args s 0 0 (zA base)) 5 D cA base h 35 [(0, .ref (base + r0)), (1, .int x1), (2, .int x2), (3, .int x3_35), (4, .int x4_35)] [] h_35 := by
      intro x3_35 x4_35 h_35 hf
      unfold jX12_settles_35 at hf
      refine g_aload_n X 0 dX12_settles_35 rfl ?_
      refine g_iload_n X 3 dX12_settles_36 rfl ?_
      refine g_iconst X (v := -1) dX12_settles_37 (by decide) ?_
      obtain ⟨h8, hch8, hf⟩ := zbd hf
      refine g_callV X 2 (sX12_owns hch8) zf12 hk1 ydX12_owns w_ml_RX12_461 w_instanceMethod_X12_owns w_sel_X12_owns w_ini_RX12 w_code_X12_owns (by decide) rfl (st := []) rfl rfl (Nat.le_of_ble_eq_true rfl) dX12_settles_38 ?_
      refine g_iload X 4 dX12_settles_41 rfl ?_
      refine g_iconst X (v := -1) dX12_settles_43 (by decide) ?_
      have hJ68 : ∀  (h_68 : Zh), jX12_settles_68 h r0 x1 x2 h_68 = some (rE, hE) → zG p l e { frames := 4, cells := 0, slots := 0, locals := 99 } s m args below meth c (MQ below (zQ D cA base h hE (some (.int rE))) args s 0 0 (zA base)) 5 D cA base h 68 [(0, .ref (base + r0)), (1, .int x1), (2, .int x2)] [] h_68 := by
        intro  h_68 hf
        unfold jX12_settles_68 at hf
        refine g_aload_n X 0 dX12_settles_68 rfl ?_
        obtain ⟨r_9, hr_9, hf⟩ := zbd hf
        refine g_get X zf12 hk1 29 (by decide) w_f_RX12_49 rfl (zfv_r hr_9 rfl) dX12_settles_69 ?_
        refine g_iload_n X 1 dX12_settles_72 rfl ?_
        refine g_iload_n X 2 dX12_settles_73 rfl ?_
        obtain ⟨hk10, hf⟩ := zite hf
        obtain ⟨hi11, hf⟩ := zite hf
        refine g_iast X hk10 hi11 dX12_settles_74 ?_
        refine g_hp (fun h12 eh12 => ?_)
        have hf := zlet_n eh12 hf
        refine g_aload_n X 0 dX12_settles_75 rfl ?_
        refine g_iload_n X 2 dX12_settles_76 rfl ?_
        refine g_iload_n X 1 dX12_settles_77 rfl ?_
        obtain ⟨h13, hch13, hf⟩ := zbd hf
        refine g_callV X 2 (sX12_owns hch13) zf12 hk1 ydX12_owns w_ml_RX12_461 w_instanceMethod_X12_owns w_sel_X12_owns w_ini_RX12 w_code_X12_owns (by decide) rfl (st := []) rfl rfl (Nat.le_of_ble_eq_true rfl) dX12_settles_78 ?_
        refine g_iconst X (v := 1) dX12_settles_81 (by decide) ?_
        obtain ⟨rfl, rfl⟩ := zsm hf
        exact g_zret X (Or.inr rfl) hr dX12_settles_82
      refine g_icmp_eq X 68 dX12_settles_44 (by decide) (fun hq => ?_) (fun hq => ?_)
      · have hf := zpos hq hf
        refine g_sub [0, 1, 2] rfl ?_
        exact hJ68 _ hf
      · have hf := zneg hq hf
        refine g_aload_n X 0 dX12_settles_47 rfl ?_
        refine g_iload X 4 dX12_settles_48 rfl ?_
        refine g_iload_n X 1 dX12_settles_50 rfl ?_
        refine g_iconst X (v := 1) dX12_settles_51 (by decide) ?_
        refine g_iadd X dX12_settles_52 ?_
        refine g_iload_n X 2 dX12_settles_53 rfl ?_
        obtain ⟨v15, h14, hch14, hf⟩ := zc2_e hf
        refine g_callV X 3 (sX12_goesOnFrom hch14) zf12 hk1 ydX12_goesOnFrom w_ml_RX12_485 w_instanceMethod_X12_goesOnFrom w_sel_X12_goesOnFrom w_ini_RX12 w_code_X12_goesOnFrom (by decide) rfl (st := []) rfl rfl (Nat.le_of_ble_eq_true rfl) dX12_settles_54 ?_
        refine g_if_ne X 68 dX12_settles_57 (by decide) (fun hq => ?_) (fun hq => ?_)
        · have hf := zneg hq hf
          refine g_sub [0, 1, 2] rfl ?_
          exact hJ68 _ hf
        · have hf := zpos hq hf
          refine g_aload_n X 0 dX12_settles_60 rfl ?_
          refine g_iload_n X 3 dX12_settles_61 rfl ?_
          refine g_iload_n X 1 dX12_settles_62 rfl ?_
          obtain ⟨h16, hch16, hf⟩ := zbd hf
          refine g_callV X 2 (sX12_owns hch16) zf12 hk1 ydX12_owns w_ml_RX12_461 w_instanceMethod_X12_owns w_sel_X12_owns w_ini_RX12 w_code_X12_owns (by decide) rfl (st := []) rfl rfl (Nat.le_of_ble_eq_true rfl) dX12_settles_63 ?_
          refine g_iconst X (v := 0) dX12_settles_66 (by decide) ?_
          obtain ⟨rfl, rfl⟩ := zsm hf
          exact g_zret X (Or.inl rfl) hr dX12_settles_67
    refine g_icmp_eq X 35 dX12_settles_24 (by decide) (fun hq => ?_) (fun hq => ?_)
    · have hf := zpos hq hf
      refine g_sub [2, 3, 4, 1, 0] rfl ?_
      exact hJ35 _ _ _ hf
    · have hf := zneg hq hf
      refine g_iload X 0 dX12_settles_27 rfl ?_
      refine g_iload_n X 3 dX12_settles_29 rfl ?_
      refine g_icmp_ge X 35 dX12_settles_30 (by decide) (fun hq => ?_) (fun hq => ?_)
      · have hf := zpos hq hf
        refine g_sub [2, 3, 4, 1, 0] rfl ?_
        exact hJ35 _ _ _ hf
      · have hf := zneg hq hf
        refine g_iconst X (v := 0) dX12_settles_33 (by decide) ?_
        obtain ⟨rfl, rfl⟩ := zsm hf
        exact g_zret X (Or.inl rfl) hr dX12_settles_34
  · have hf := zpos hq hf
    refine g_iconst X (v := 1) dX12_settles_12 (by decide) ?_
    obtain ⟨rfl, rfl⟩ := zsm hf
    exact g_zret X (Or.inr rfl) hr dX12_settles_13

set_option maxHeartbeats 4000000 in
set_option maxRecDepth 100000 in
theorem sX12_knowsTable {l : Launch} {D : va_G} {cA : Nat → ClassId} {base : Nat} {sA : Nat → Nat} {r0 : Nat} {h hE : Zh} (hf : fX12_knowsTable r0 h = some hE) : zC l yX12_knowsTable cX12_knowsTable 4 none 5 123 D cA base sA [.ref (base + r0)] h none hE := by
  refine g_entry RX12 (by decide) rfl (Nat.le_of_ble_eq_true rfl) ?_
  intro p e s m args below meth c X hr
  unfold fX12_knowsTable at hf
  have hf := zlet_n (x := h) rfl hf
  show zG p l e { frames := 5, cells := 0, slots := 0, locals := 123 } s m args below meth c (MQ below (zQ D cA base h hE none) args s 0 0 (zA base)) 4 D cA base h 0 [(0, .ref (base + r0))] [] h
  refine g_aload_n X 0 dX12_knowsTable_0 rfl ?_
  obtain ⟨hk1, hf⟩ := zite hf
  refine g_get X zf12 hk1 35 (by decide) w_f_RX12_343 rfl rfl dX12_knowsTable_1 ?_
  refine g_if_eq X 8 dX12_knowsTable_4 (by decide) (fun hq => ?_) (fun hq => ?_)
  · have hf := zpos hq hf
    refine g_aload_n X 0 dX12_knowsTable_8 rfl ?_
    refine g_iconst X (v := 1) dX12_knowsTable_9 (by decide) ?_
    refine g_putZ X zf12 hk1 (Or.inr rfl) 35 (by decide) w_f_RX12_343 rfl rfl rfl dX12_knowsTable_10 ?_
    refine g_hp (fun h2 eh2 => ?_)
    have hf := zlet_n eh2 hf
    refine g_aload_n X 0 dX12_knowsTable_13 rfl ?_
    refine g_aload_n X 0 dX12_knowsTable_14 rfl ?_
    obtain ⟨v4, h3, hch3, hf⟩ := zc2_e hf
    refine g_callV X 0 (sX12_pairsNow hch3) zf12 hk1 ydX12_pairsNow w_ml_RX12_488 w_instanceMethod_X12_pairsNow w_sel_X12_pairsNow w_ini_RX12 w_code_X12_pairsNow (by decide) rfl (st := [.ref (base + r0)]) rfl rfl (Nat.le_of_ble_eq_true rfl) dX12_knowsTable_15 ?_
    refine g_aload_n X 0 dX12_knowsTable_18 rfl ?_
    refine g_get X zf12 hk1 17 (by decide) w_f_RX12_356 rfl rfl dX12_knowsTable_19 ?_
    have hJ30 : ∀ (t0_30 : Int32) (t1_30 : Nat) (h_30 : Zh), jX12_knowsTable_30 h r0 t0_30 t1_30 h_30 = some hE → zG p l e { frames := 5, cells := 0, slots := 0, locals := 123 } s m args below meth c (MQ below (zQ D cA base h hE none) args s 0 0 (zA base)) 4 D cA base h 30 [(0, .ref (base + r0))] [.int t0_30, .ref (base + t1_30)] h_30 := by
      intro t0_30 t1_30 h_30 hf
      unfold jX12_knowsTable_30 at hf
      obtain ⟨hk5, hf⟩ := zite hf
      obtain ⟨hb7, hf⟩ := zite hf
      refine g_putZ X zf12 hk5 hb7 36 (by decide) w_f_RX12_427 rfl rfl rfl dX12_knowsTable_30 ?_
      refine g_hp (fun h6 eh6 => ?_)
      have hf := zlet_n eh6 hf
      refine g_iconst X (v := 0) dX12_knowsTable_33 (by decide) ?_
      refine g_istore_n X [(1, .int ((0 : Int32))), (0, .ref (base + r0))] dX12_knowsTable_34 (by decide) rfl ?_
      refine g_sub [1, 0] rfl ?_
      obtain ⟨qq, hlp, hf⟩ := zbd hf
      refine lp_snd (body := (fun q : Int32 × Zh => bX12_knowsTable_35 h r0 q.1 q.2)) (P := (fun q : Int32 × Zh => zG p l e { frames := 5, cells := 0, slots := 0, locals := 123 } s m args below meth c (MQ below (zQ D cA base h hE none) args s 0 0 (zA base)) 4 D cA base h 35 [(0, .ref (base + r0)), (1, .int q.1)] [] q.2)) (E := (fun (en : Nat) (q : Int32 × Zh) => zG p l e { frames := 5, cells := 0, slots := 0, locals := 123 } s m args below meth c (MQ below (zQ D cA base h hE none) args s 0 0 (zA base)) 4 D cA base h 125 [] [] q.2)) ?_ zB ((0 : Int32), h6) qq.1 qq.2 hlp ?_
      · intro q e_35 q_35 hf hc0 hc1
        obtain ⟨x1_35, h_35⟩ := q
        have hf : bX12_knowsTable_35 h r0 x1_35 h_35 = some (e_35, q_35) := hf
        unfold bX12_knowsTable_35 at hf
        show zG p l e { frames := 5, cells := 0, slots := 0, locals := 123 } s m args below meth c (MQ below (zQ D cA base h hE none) args s 0 0 (zA base)) 4 D cA base h 35 [(0, .ref (base + r0)), (1, .int x1_35)] [] h_35
        refine g_iload_n X 1 dX12_knowsTable_35 rfl ?_
        refine g_aload_n X 0 dX12_knowsTable_36 rfl ?_
        refine g_get X zf12 hk1 17 (by decide) w_f_RX12_356 rfl rfl dX12_knowsTable_37 ?_
        refine g_icmp_ge X 125 dX12_knowsTable_40 (by decide) (fun hq => ?_) (fun hq => ?_)
        · have hf := zpos hq hf
          cases hf
          have hc1 := hc1 (by decide)
          exact g_sub [] rfl hc1
        · have hf := zneg hq hf
          refine g_aload_n X 0 dX12_knowsTable_43 rfl ?_
          refine g_get X zf12 hk1 36 (by decide) w_f_RX12_427 rfl rfl dX12_knowsTable_44 ?_
          refine g_if_eq X 125 dX12_knowsTable_47 (by decide) (fun hq => ?_) (fun hq => ?_)
          · have hf := zpos hq hf
            cases hf
            have hc1 := hc1 (by decide)
            exact g_sub [] rfl hc1
          · have hf := zneg hq hf
            refine g_aload_n X 0 dX12_knowsTable_50 rfl ?_
            refine g_iload_n X 1 dX12_knowsTable_51 rfl ?_
            obtain ⟨h8, hch8, hf⟩ := zbd hf
            refine g_callV X 1 (sX12_fitsOf hch8) zf12 hk1 ydX12_fitsOf w_ml_RX12_479 w_instanceMethod_X12_fitsOf w_sel_X12_fitsOf w_ini_RX12 w_code_X12_fitsOf (by decide) rfl (st := []) rfl rfl (Nat.le_of_ble_eq_true rfl) dX12_knowsTable_52 ?_
            refine g_aload_n X 0 dX12_knowsTable_55 rfl ?_
            refine g_get X zf12 hk1 22 (by decide) w_f_RX12_400 rfl rfl dX12_knowsTable_56 ?_
            refine g_topi (fun y9 ey9 => ?_)
            have hf := zlet_n ey9 hf
            refine g_istore_n X [(2, .int y9), (0, .ref (base + r0)), (1, .int x1_35)] dX12_knowsTable_59 (by decide) rfl ?_
            refine g_iconst X (v := 0) dX12_knowsTable_60 (by decide) ?_
            refine g_istore_n X [(3, .int ((0 : Int32))), (2, .int y9), (0, .ref (base + r0)), (1, .int x1_35)] dX12_knowsTable_61 (by decide) rfl ?_
            refine g_sub [2, 3, 1, 0] rfl ?_
            obtain ⟨qq, hlp, hf⟩ := zbd hf
            refine lp_snd (body := (fun q : Int32 × Zh => bX12_knowsTable_62 h r0 y9 q.1 q.2)) (P := (fun q : Int32 × Zh => zG p l e { frames := 5, cells := 0, slots := 0, locals := 123 } s m args below meth c (MQ below (zQ D cA base h hE none) args s 0 0 (zA base)) 4 D cA base h 62 [(0, .ref (base + r0)), (1, .int x1_35), (2, .int y9), (3, .int q.1)] [] q.2)) (E := (fun (en : Nat) (q : Int32 × Zh) => zG p l e { frames := 5, cells := 0, slots := 0, locals := 123 } s m args below meth c (MQ below (zQ D cA base h hE none) args s 0 0 (zA base)) 4 D cA base h 85 [(0, .ref (base + r0)), (1, .int x1_35)] [] q.2)) ?_ zB ((0 : Int32), h8) qq.1 qq.2 hlp ?_
            · intro q e_62 q_62 hf hc0 hc1
              obtain ⟨x3_62, h_62⟩ := q
              have hf : bX12_knowsTable_62 h r0 y9 x3_62 h_62 = some (e_62, q_62) := hf
              unfold bX12_knowsTable_62 at hf
              show zG p l e { frames := 5, cells := 0, slots := 0, locals := 123 } s m args below meth c (MQ below (zQ D cA base h hE none) args s 0 0 (zA base)) 4 D cA base h 62 [(0, .ref (base + r0)), (1, .int x1_35), (2, .int y9), (3, .int x3_62)] [] h_62
              refine g_iload_n X 3 dX12_knowsTable_62 rfl ?_
              refine g_iload_n X 2 dX12_knowsTable_63 rfl ?_
              refine g_icmp_ge X 85 dX12_knowsTable_64 (by decide) (fun hq => ?_) (fun hq => ?_)
              · have hf := zpos hq hf
                cases hf
                have hc1 := hc1 (by decide)
                exact g_sub [0, 1] rfl hc1
              · have hf := zneg hq hf
                refine g_aload_n X 0 dX12_knowsTable_67 rfl ?_
                obtain ⟨r_10, hr_10, hf⟩ := zbd hf
                refine g_get X zf12 hk1 34 (by decide) w_f_RX12_65 rfl (zfv_r hr_10 rfl) dX12_knowsTable_68 ?_
                refine g_iload_n X 3 dX12_knowsTable_71 rfl ?_
                refine g_aload_n X 0 dX12_knowsTable_72 rfl ?_
                obtain ⟨r_11, hr_11, hf⟩ := zbd hf
                refine g_get X zf12 hk1 21 (by decide) w_f_RX12_30 rfl (zfv_r hr_11 rfl) dX12_knowsTable_73 ?_
                refine g_iload_n X 3 dX12_knowsTable_76 rfl ?_
                obtain ⟨hk12, hf⟩ := zite hf
                obtain ⟨hi13, hf⟩ := zite hf
                refine g_iald X hk12 hi13 dX12_knowsTable_77 ?_
                obtain ⟨hk14, hf⟩ := zite hf
                obtain ⟨hi15, hf⟩ := zite hf
                refine g_iast X hk14 hi15 dX12_knowsTable_78 ?_
                refine g_hp (fun h16 eh16 => ?_)
                have hf := zlet_n eh16 hf
                obtain ⟨y17, ey17⟩ : ∃ y : Int32, y = x3_62 + (1 : Int32) := ⟨_, rfl⟩
                have hf := zlet_n ey17 hf
                refine g_iinc X (j := 3) [(3, .int y17), (0, .ref (base + r0)), (1, .int x1_35), (2, .int y9)] dX12_knowsTable_79 rfl (by rw [ey17]; rfl) (by decide) rfl ?_
                refine g_goto X 62 dX12_knowsTable_82 (by decide) ?_
                cases hf
                exact g_sub [1, 2, 3, 0] rfl (hc0 rfl)
            · obtain ⟨ee, x3_k62, h_k62⟩ := qq
              have hf : kX12_knowsTable_62 h r0 x1_35 ee x3_k62 h_k62 = some (e_35, q_35) := hf
              unfold kX12_knowsTable_62 at hf
              show zG p l e { frames := 5, cells := 0, slots := 0, locals := 123 } s m args below meth c (MQ below (zQ D cA base h hE none) args s 0 0 (zA base)) 4 D cA base h 85 [(0, .ref (base + r0)), (1, .int x1_35)] [] h_k62
              refine g_iconst X (v := 0) dX12_knowsTable_85 (by decide) ?_
              refine g_istore_n X [(3, .int ((0 : Int32))), (0, .ref (base + r0)), (1, .int x1_35)] dX12_knowsTable_86 (by decide) rfl ?_
              refine g_sub [1, 2, 0] rfl ?_
              obtain ⟨qq, hlp, hf⟩ := zbd hf
              refine lp_snd (body := (fun q : Int32 × Zh => bX12_knowsTable_87 h r0 x1_35 q.1 q.2)) (P := (fun q : Int32 × Zh => zG p l e { frames := 5, cells := 0, slots := 0, locals := 123 } s m args below meth c (MQ below (zQ D cA base h hE none) args s 0 0 (zA base)) 4 D cA base h 87 [(0, .ref (base + r0)), (1, .int x1_35), (3, .int q.1)] [] q.2)) (E := (fun (en : Nat) (q : Int32 × Zh) => zG p l e { frames := 5, cells := 0, slots := 0, locals := 123 } s m args below meth c (MQ below (zQ D cA base h hE none) args s 0 0 (zA base)) 4 D cA base h 107 [(0, .ref (base + r0)), (1, .int x1_35)] [] q.2)) ?_ zB ((0 : Int32), h_k62) qq.1 qq.2 hlp ?_
              · intro q e_87 q_87 hf hc0 hc1
                obtain ⟨x3_87, h_87⟩ := q
                have hf : bX12_knowsTable_87 h r0 x1_35 x3_87 h_87 = some (e_87, q_87) := hf
                unfold bX12_knowsTable_87 at hf
                show zG p l e { frames := 5, cells := 0, slots := 0, locals := 123 } s m args below meth c (MQ below (zQ D cA base h hE none) args s 0 0 (zA base)) 4 D cA base h 87 [(0, .ref (base + r0)), (1, .int x1_35), (3, .int x3_87)] [] h_87
                refine g_aload_n X 0 dX12_knowsTable_87 rfl ?_
                refine g_iload_n X 1 dX12_knowsTable_88 rfl ?_
                refine g_aload_n X 0 dX12_knowsTable_89 rfl ?_
                obtain ⟨r_18, hr_18, hf⟩ := zbd hf
                refine g_get X zf12 hk1 34 (by decide) w_f_RX12_65 rfl (zfv_r hr_18 rfl) dX12_knowsTable_90 ?_
                refine g_iload_n X 2 dX12_knowsTable_93 rfl ?_
                obtain ⟨hk19, hf⟩ := zite hf
                obtain ⟨hi20, hf⟩ := zite hf
                refine g_iald X hk19 hi20 dX12_knowsTable_94 ?_
                obtain ⟨v22, h21, hch21, hf⟩ := zc2_e hf
                refine g_callV X 2 (sX12_settles hch21) zf12 hk1 ydX12_settles w_ml_RX12_491 w_instanceMethod_X12_settles w_sel_X12_settles w_ini_RX12 w_code_X12_settles (by decide) rfl (st := []) rfl rfl (Nat.le_of_ble_eq_true rfl) dX12_knowsTable_95 ?_
                refine g_if_ne X 107 dX12_knowsTable_98 (by decide) (fun hq => ?_) (fun hq => ?_)
                · have hf := zneg hq hf
                  cases hf
                  have hc1 := hc1 (by decide)
                  exact g_sub [0, 1] rfl hc1
                · have hf := zpos hq hf
                  obtain ⟨y23, ey23⟩ : ∃ y : Int32, y = x3_87 + (1 : Int32) := ⟨_, rfl⟩
                  have hf := zlet_n ey23 hf
                  refine g_iinc X (j := 2) [(3, .int y23), (0, .ref (base + r0)), (1, .int x1_35)] dX12_knowsTable_101 rfl (by rw [ey23]; rfl) (by decide) rfl ?_
                  refine g_goto X 87 dX12_knowsTable_104 (by decide) ?_
                  cases hf
                  exact g_sub [1, 2, 0] rfl (hc0 rfl)
              · obtain ⟨ee, x3_k87, h_k87⟩ := qq
                have hf : kX12_knowsTable_87 h r0 x1_35 ee x3_k87 h_k87 = some (e_35, q_35) := hf
                unfold kX12_knowsTable_87 at hf
                show zG p l e { frames := 5, cells := 0, slots := 0, locals := 123 } s m args below meth c (MQ below (zQ D cA base h hE none) args s 0 0 (zA base)) 4 D cA base h 107 [(0, .ref (base + r0)), (1, .int x1_35)] [] h_k87
                refine g_aload_n X 0 dX12_knowsTable_107 rfl ?_
                obtain ⟨r_24, hr_24, hf⟩ := zbd hf
                refine g_get X zf12 hk1 33 (by decide) w_f_RX12_62 rfl (zfv_r hr_24 rfl) dX12_knowsTable_108 ?_
                refine g_iload_n X 1 dX12_knowsTable_111 rfl ?_
                refine g_aload_n X 0 dX12_knowsTable_112 rfl ?_
                obtain ⟨r_25, hr_25, hf⟩ := zbd hf
                refine g_get X zf12 hk1 29 (by decide) w_f_RX12_49 rfl (zfv_r hr_25 rfl) dX12_knowsTable_113 ?_
                refine g_iload_n X 1 dX12_knowsTable_116 rfl ?_
                obtain ⟨hk26, hf⟩ := zite hf
                obtain ⟨hi27, hf⟩ := zite hf
                refine g_iald X hk26 hi27 dX12_knowsTable_117 ?_
                obtain ⟨hk28, hf⟩ := zite hf
                obtain ⟨hi29, hf⟩ := zite hf
                refine g_iast X hk28 hi29 dX12_knowsTable_118 ?_
                refine g_hp (fun h30 eh30 => ?_)
                have hf := zlet_n eh30 hf
                obtain ⟨y31, ey31⟩ : ∃ y : Int32, y = x1_35 + (1 : Int32) := ⟨_, rfl⟩
                have hf := zlet_n ey31 hf
                refine g_iinc X (j := 1) [(1, .int y31), (0, .ref (base + r0))] dX12_knowsTable_119 rfl (by rw [ey31]; rfl) (by decide) rfl ?_
                refine g_goto X 35 dX12_knowsTable_122 (by decide) ?_
                cases hf
                exact g_sub [1, 0] rfl (hc0 rfl)
      · obtain ⟨ee, x1_k35, h_k35⟩ := qq
        have hf : kX12_knowsTable_35 h ee x1_k35 h_k35 = some hE := hf
        unfold kX12_knowsTable_35 at hf
        show zG p l e { frames := 5, cells := 0, slots := 0, locals := 123 } s m args below meth c (MQ below (zQ D cA base h hE none) args s 0 0 (zA base)) 4 D cA base h 125 [] [] h_k35
        cases hf
        exact g_vret X hr dX12_knowsTable_125
    refine g_icmp_ne X 29 dX12_knowsTable_22 (by decide) (fun hq => ?_) (fun hq => ?_)
    · have hf := zneg hq hf
      refine g_iconst X (v := 0) dX12_knowsTable_29 (by decide) ?_
      refine g_sub [0] rfl ?_
      exact hJ30 _ _ _ hf
    · have hf := zpos hq hf
      refine g_iconst X (v := 1) dX12_knowsTable_25 (by decide) ?_
      refine g_goto X 30 dX12_knowsTable_26 (by decide) ?_
      refine g_sub [0] rfl ?_
      exact hJ30 _ _ _ hf
  · have hf := zneg hq hf
    cases hf
    exact g_vret X hr dX12_knowsTable_7

set_option maxHeartbeats 4000000 in
set_option maxRecDepth 100000 in
theorem sX12_laysNow {l : Launch} {D : va_G} {cA : Nat → ClassId} {base : Nat} {sA : Nat → Nat} {r0 : Nat} {x1 : Int32} {x2 : Int32} {h hE : Zh} {rE : Int32} (hf : fX12_laysNow r0 x1 x2 h = some (rE, hE)) : zC l yX12_laysNow cX12_laysNow 4 (some .int) 6 146 D cA base sA [.ref (base + r0), .int x1, .int x2] h (some (.int rE)) hE := by
  refine g_entry RX12 (by decide) rfl (Nat.le_of_ble_eq_true rfl) ?_
  intro p e s m args below meth c X hr
  unfold fX12_laysNow at hf
  have hf := zlet_n (x := h) rfl hf
  show zG p l e { frames := 6, cells := 0, slots := 0, locals := 146 } s m args below meth c (MQ below (zQ D cA base h hE (some (.int rE))) args s 0 0 (zA base)) 4 D cA base h 0 [(0, .ref (base + r0)), (1, .int x1), (2, .int x2)] [] h
  refine g_aload_n X 0 dX12_laysNow_0 rfl ?_
  obtain ⟨hk1, hf⟩ := zite hf
  obtain ⟨r_2, hr_2, hf⟩ := zbd hf
  refine g_get X zf12 hk1 3 (by decide) w_f_RX12_329 rfl (zfv_r hr_2 rfl) dX12_laysNow_1 ?_
  obtain ⟨hk3, hf⟩ := zite hf
  obtain ⟨r_4, hr_4, hf⟩ := zbd hf
  refine g_getN X zf11 hk3 10 (by decide) w_fn_RX12_283 rfl (zfv_r hr_4 rfl) dX12_laysNow_4 ?_
  refine g_iload_n X 1 dX12_laysNow_7 rfl ?_
  obtain ⟨hk5, hf⟩ := zite hf
  obtain ⟨hi6, hf⟩ := zite hf
  refine g_iald X hk5 hi6 dX12_laysNow_8 ?_
  refine g_topi (fun y7 ey7 => ?_)
  have hf := zlet_n ey7 hf
  refine g_istore_n X [(3, .int y7), (0, .ref (base + r0)), (1, .int x1), (2, .int x2)] dX12_laysNow_9 (by decide) rfl ?_
  refine g_iload_n X 0 dX12_laysNow_10 rfl ?_
  refine g_bipush X (v := 20) dX12_laysNow_11 (by decide) ?_
  refine g_icmp_ne X 22 dX12_laysNow_13 (by decide) (fun hq => ?_) (fun hq => ?_)
  · have hf := zneg hq hf
    refine g_iload_n X 0 dX12_laysNow_22 rfl ?_
    refine g_bipush X (v := 21) dX12_laysNow_23 (by decide) ?_
    refine g_icmp_eq X 35 dX12_laysNow_25 (by decide) (fun hq => ?_) (fun hq => ?_)
    · have hf := zpos hq hf
      refine g_aload_n X 1 dX12_laysNow_35 rfl ?_
      refine g_get X zf12 hk1 17 (by decide) w_f_RX12_356 rfl rfl dX12_laysNow_36 ?_
      refine g_sipush X (v := 300) dX12_laysNow_39 (by decide) ?_
      refine g_icmp_le X 48 dX12_laysNow_42 (by decide) (fun hq => ?_) (fun hq => ?_)
      · have hf := zpos hq hf
        refine g_aload_n X 1 dX12_laysNow_48 rfl ?_
        obtain ⟨h8, hch8, hf⟩ := zbd hf
        refine g_callV X 0 (sX12_knowsTable hch8) zf12 hk1 ydX12_knowsTable w_ml_RX12_424 w_instanceMethod_X12_knowsTable w_sel_X12_knowsTable w_ini_RX12 w_code_X12_knowsTable (by decide) rfl (st := []) rfl rfl (Nat.le_of_ble_eq_true rfl) dX12_laysNow_49 ?_
        refine g_aload_n X 1 dX12_laysNow_52 rfl ?_
        refine g_get X zf12 hk1 36 (by decide) w_f_RX12_427 rfl rfl dX12_laysNow_53 ?_
        refine g_if_eq X 68 dX12_laysNow_56 (by decide) (fun hq => ?_) (fun hq => ?_)
        · have hf := zpos hq hf
          refine g_bipush X (v := -2) dX12_laysNow_68 (by decide) ?_
          obtain ⟨rfl, rfl⟩ := zsm hf
          exact g_iret X hr dX12_laysNow_70
        · have hf := zneg hq hf
          refine g_aload_n X 1 dX12_laysNow_59 rfl ?_
          obtain ⟨r_9, hr_9, hf⟩ := zbd hf
          refine g_get X zf12 hk1 33 (by decide) w_f_RX12_62 rfl (zfv_r hr_9 rfl) dX12_laysNow_60 ?_
          refine g_iload_n X 3 dX12_laysNow_63 rfl ?_
          obtain ⟨hk10, hf⟩ := zite hf
          obtain ⟨hi11, hf⟩ := zite hf
          refine g_iald X hk10 hi11 dX12_laysNow_64 ?_
          refine g_goto X 70 dX12_laysNow_65 (by decide) ?_
          obtain ⟨rfl, rfl⟩ := zsm hf
          exact g_iret X hr dX12_laysNow_70
      · have hf := zneg hq hf
        refine g_bipush X (v := -2) dX12_laysNow_45 (by decide) ?_
        obtain ⟨rfl, rfl⟩ := zsm hf
        exact g_iret X hr dX12_laysNow_47
    · have hf := zneg hq hf
      refine g_aload_n X 1 dX12_laysNow_28 rfl ?_
      refine g_iload_n X 0 dX12_laysNow_29 rfl ?_
      refine g_iload_n X 3 dX12_laysNow_30 rfl ?_
      obtain ⟨v13, h12, hch12, hf⟩ := zc2_e hf
      refine g_callV X 2 (sX12_laysWords hch12) zf12 hk1 ydX12_laysWords w_ml_RX12_421 w_instanceMethod_X12_laysWords w_sel_X12_laysWords w_ini_RX12 w_code_X12_laysWords (by decide) rfl (st := []) rfl rfl (Nat.le_of_ble_eq_true rfl) dX12_laysNow_31 ?_
      obtain ⟨rfl, rfl⟩ := zsm hf
      exact g_iret X hr dX12_laysNow_34
  · have hf := zpos hq hf
    refine g_aload_n X 1 dX12_laysNow_16 rfl ?_
    refine g_iload_n X 3 dX12_laysNow_17 rfl ?_
    obtain ⟨v15, h14, hch14, hf⟩ := zc2_e hf
    refine g_callV X 1 (sX12_laysSuit hch14) zf12 hk1 ydX12_laysSuit w_ml_RX12_418 w_instanceMethod_X12_laysSuit w_sel_X12_laysSuit w_ini_RX12 w_code_X12_laysSuit (by decide) rfl (st := []) rfl rfl (Nat.le_of_ble_eq_true rfl) dX12_laysNow_18 ?_
    obtain ⟨rfl, rfl⟩ := zsm hf
    exact g_iret X hr dX12_laysNow_21

