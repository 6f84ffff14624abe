/-! FifthCardModel hardest -/
def jX12_hardest_100 (g : Zh) (r0 : Nat) (x3 : Int32) (x4 : Int32) (x5 : Int32) (h : Zh) : Option (Nat × Int32 × Int32 × Int32 × Zh) :=
  zlet (x4 + (1 : Int32)) fun y11 => some (0, (x3, (x5, (y11, h))))
def bX12_hardest_56 (g : Zh) (r0 : Nat) (x3 : Int32) (x1 : Int32) (x2 : Int32) (x4 : Int32) (h : Zh) : Option (Nat × Int32 × Int32 × Int32 × Zh) :=
  (zR h r0 3).bind fun r_7 => if zK g r_7 = 11 then if (zI h r_7 5) ≤ x4 then some (1, (x1, (x2, (x4, h)))) else if x3 = x4 then zlet (x4 + (1 : Int32)) fun y13 => some (0, (x1, (x2, (y13, h)))) else zc2 (fX12_apartNow r0 x3 x4 h) fun v10 h9 => if x1 = ((-1 : Int32)) then jX12_hardest_100 g r0 x3 x4 v10 h9 else if v10 < x2 then jX12_hardest_100 g r0 x3 x4 v10 h9 else zlet (x4 + (1 : Int32)) fun y12 => some (0, (x1, (x2, (y12, h9)))) else none
def kX12_hardest_56 (g : Zh) (r0 : Nat) (x3 : Int32) (e : Nat) (x1 : Int32) (x2 : Int32) (x4 : Int32) (h : Zh) : Option (Nat × Int32 × Int32 × Int32 × Zh) :=
  zlet (x3 + (1 : Int32)) fun y14 => some (0, (x1, (x2, (y14, h))))
def bX12_hardest_42 (g : Zh) (r0 : Nat) (x1 : Int32) (x2 : Int32) (x3 : Int32) (h : Zh) : Option (Nat × Int32 × Int32 × Int32 × Zh) :=
  (zR h r0 3).bind fun r_5 => if zK g r_5 = 11 then if (zI h r_5 5) ≤ x3 then some (1, (x1, (x2, (x3, h)))) else (lp (fun q : Int32 × Int32 × Int32 × Zh => bX12_hardest_56 g r0 x3 q.1 q.2.1 q.2.2.1 q.2.2.2) zB (x1, (x2, ((0 : Int32), h)))).bind fun q => kX12_hardest_56 g r0 x3 q.1 q.2.1 q.2.2.1 q.2.2.2.1 q.2.2.2.2 else none
def kX12_hardest_42 (g : Zh) (r0 : Nat) (e : Nat) (x1 : Int32) (x2 : Int32) (x3 : Int32) (h : Zh) : Option (Int32 × Zh) :=
  zc2 (fX12_good r0 x1 h) fun v16 h15 => some (v16, h15)
def fX12_hardest (r0 : Nat) (h : Zh) : Option (Int32 × Zh) := zlet h fun g =>
  if zK g r0 = 12 then zlet (zsI h r0 0 ((0 : Int32))) fun h2 => if (zR h2 r0 3).isSome = true then (zR h2 r0 3).bind fun r_3 => if zK g r_3 = 11 then if ((2 : Int32)) ≤ (zI h2 r_3 5) then (lp (fun q : Int32 × Int32 × Int32 × Zh => bX12_hardest_42 g r0 q.1 q.2.1 q.2.2.1 q.2.2.2) zB ((-1 : Int32), ((0 : Int32), ((0 : Int32), h2)))).bind fun q => kX12_hardest_42 g r0 q.1 q.2.1 q.2.2.1 q.2.2.2.1 q.2.2.2.2 else zc2 (fX12_refused r0 ((6 : Int32)) h2) fun v18 h17 => some (v18, h17) else none else zc2 (fX12_refused r0 ((1 : Int32)) h2) fun v20 h19 => some (v20, h19) else none
/-! FifthCardModel shows -/
def fX12_shows (r0 : Nat) (x1 : Int32) (x2 : Int32) (h : Zh) : Option (Int32 × Zh) := zlet h fun g =>
  if zK g r0 = 12 then zlet (zsI h r0 0 ((0 : Int32))) fun h2 => zc2 (fX12_isRule r0 x1 h2) fun v4 h3 => if v4 = 0 then zc2 (fX12_refused r0 ((1 : Int32)) h3) fun v6 h5 => some (v6, h5) else zc2 (fX12_isHand r0 x2 h3) fun v8 h7 => if v8 = 0 then zc2 (fX12_refused r0 ((1 : Int32)) h7) fun v27 h26 => some (v27, h26) else zc2 (fX12_laysNow r0 x1 x2 h7) fun v10 h9 => if v10 = ((-2 : Int32)) then zc2 (fX12_refused r0 ((6 : Int32)) h9) fun v25 h24 => some (v25, h24) else if (zI h9 r0 43) = ((20 : Int32)) then zc2 (fX12_refused r0 ((3 : Int32)) h9) fun v23 h22 => some (v23, h22) else (zR h9 r0 37).bind fun r_11 => if zK g r_11 = 100 then if zin (zI h9 r0 43) (zL g r_11) then zlet (zsI h9 r_11 (zI h9 r0 43).toNatClampNeg x2) fun h14 => (zR h14 r0 38).bind fun r_15 => if zK g r_15 = 100 then if zin (zI h14 r0 43) (zL g r_15) then zlet (zsI h14 r_15 (zI h14 r0 43).toNatClampNeg v10) fun h18 => zlet (zsI h18 r0 43 ((zI h18 r0 43) + ((1 : Int32)))) fun h19 => zc2 (fX12_good r0 ((zI h19 r0 43) - ((1 : Int32))) h19) fun v21 h20 => some (v21, h20) else none else none else none else none else none
/-! FifthCardModel seed -/
def fX12_seed (r0 : Nat) (x1 : Int32) (h : Zh) : Option (Int32 × Zh) := zlet h fun g =>
  if zK g r0 = 12 then zlet (zsI h r0 0 ((0 : Int32))) fun h2 => if (zR h2 r0 3).isSome = true then zc2 (fX12_in x1 ((0 : Int32)) ((65536 : Int32)) h2) fun v4 h3 => if v4 = 0 then zc2 (fX12_denied r0 ((2 : Int32)) h3) fun v10 h9 => if v10 = 0 ∨ v10 = 1 then some (v10, h9) else none else zlet (zsI h3 r0 45 x1) fun h5 => zc2 (fX12_granted r0 h5) fun v7 h6 => if v7 = 0 ∨ v7 = 1 then some (v7, h6) else none else zc2 (fX12_denied r0 ((1 : Int32)) h2) fun v13 h12 => if v13 = 0 ∨ v13 = 1 then some (v13, h12) else none else none
/-! FifthCardModel draw -/
def fX12_draw (r0 : Nat) (h : Zh) : Option (Int32 × Zh) := zlet h fun g =>
  if zK g r0 = 12 then zlet (zsI h r0 0 ((0 : Int32))) fun h2 => if (zR h2 r0 3).isSome = true then if ¬ ((65537 : Int64)) = 0 then zlet (zsI h2 r0 45 ((zlrem ((((75 : Int64)) * ((zI h2 r0 45).toInt64)) + ((74 : Int64))) ((65537 : Int64))).toInt32)) fun h4 => if ¬ (zI h4 r0 17) = 0 then zc2 (fX12_good r0 (zrem (zI h4 r0 45) (zI h4 r0 17)) h4) fun v7 h6 => some (v7, h6) else none else none else zc2 (fX12_refused r0 ((1 : Int32)) h2) fun v9 h8 => some (v9, h8) else none
/-! FifthCardModel strike -/
def fX12_strike (r0 : Nat) (h : Zh) : Option (Int32 × Zh) := zlet h fun g =>
  if zK g r0 = 12 then zlet (zsI h r0 0 ((0 : Int32))) fun h2 => if (zR h2 r0 3).isSome = true then if (zI h2 r0 43) = 0 then zc2 (fX12_denied r0 ((6 : Int32)) h2) fun v11 h10 => if v11 = 0 ∨ v11 = 1 then some (v11, h10) else none else zlet (zsI h2 r0 43 ((zI h2 r0 43) - ((1 : Int32)))) fun h6 => zc2 (fX12_granted r0 h6) fun v8 h7 => if v8 = 0 ∨ v8 = 1 then some (v8, h7) else none else zc2 (fX12_denied r0 ((6 : Int32)) h2) fun v4 h3 => if v4 = 0 ∨ v4 = 1 then some (v4, h3) else none else none
/-! FifthCardModel image -/
def bX12_image_34 (g : Zh) (r0 : Nat) (x1 : Int32) (h : Zh) : Option (Nat × Int32 × Zh) :=
  if (zI h r0 43) ≤ x1 then some (1, (x1, h)) else (zR h r0 39).bind fun r_3 => (zR h r0 37).bind fun r_4 => if zK g r_4 = 100 then if zin x1 (zL g r_4) then if zK g r_3 = 100 then if zin ((((20 : Int32)) * (zI h r0 44)) + x1) (zL g r_3) then zlet (zsI h r_3 ((((20 : Int32)) * (zI h r0 44)) + x1).toNatClampNeg (zI h r_4 x1.toNatClampNeg)) fun h9 => (zR h9 r0 40).bind fun r_10 => (zR h9 r0 38).bind fun r_11 => if zK g r_11 = 100 then if zin x1 (zL g r_11) then if zK g r_10 = 100 then if zin ((((20 : Int32)) * (zI h9 r0 44)) + x1) (zL g r_10) then zlet (zsI h9 r_10 ((((20 : Int32)) * (zI h9 r0 44)) + x1).toNatClampNeg (zI h9 r_11 x1.toNatClampNeg)) fun h16 => zlet (x1 + (1 : Int32)) fun y17 => some (0, (y17, h16)) else none else none else none else none else none else none else none else none
def kX12_image_34 (g : Zh) (r0 : Nat) (e : Nat) (x1 : Int32) (h : Zh) : Option (Int32 × Zh) :=
  (zR h r0 41).bind fun r_18 => if zK g r_18 = 100 then if zin (zI h r0 44) (zL g r_18) then zlet (zsI h r_18 (zI h r0 44).toNatClampNeg (zI h r0 43)) fun h21 => (zR h21 r0 42).bind fun r_22 => if zK g r_22 = 100 then if zin (zI h21 r0 44) (zL g r_22) then zlet (zsI h21 r_22 (zI h21 r0 44).toNatClampNeg (zI h21 r0 45)) fun h25 => zlet (zsI h25 r0 44 ((zI h25 r0 44) + ((1 : Int32)))) fun h26 => zc2 (fX12_good r0 ((zI h26 r0 44) - ((1 : Int32))) h26) fun v28 h27 => some (v28, h27) else none else none else none else none
def fX12_image (r0 : Nat) (h : Zh) : Option (Int32 × Zh) := zlet h fun g =>
  if zK g r0 = 12 then zlet (zsI h r0 0 ((0 : Int32))) fun h2 => if (zR h2 r0 3).isSome = true then if (zI h2 r0 44) = ((3 : Int32)) then zc2 (fX12_refused r0 ((3 : Int32)) h2) fun v30 h29 => some (v30, h29) else (lp (fun q : Int32 × Zh => bX12_image_34 g r0 q.1 q.2) zB ((0 : Int32), h2)).bind fun q => kX12_image_34 g r0 q.1 q.2.1 q.2.2 else zc2 (fX12_refused r0 ((1 : Int32)) h2) fun v32 h31 => some (v32, h31) else none
/-! FifthCardModel back -/
def bX12_back_52 (g : Zh) (r0 : Nat) (x1 : Int32) (x2 : Int32) (h : Zh) : Option (Nat × Int32 × Zh) :=
  if (zI h r0 43) ≤ x2 then some (1, (x2, h)) else (zR h r0 37).bind fun r_17 => (zR h r0 39).bind fun r_18 => if zK g r_18 = 100 then if zin ((((20 : Int32)) * x1) + x2) (zL g r_18) then if zK g r_17 = 100 then if zin x2 (zL g r_17) then zlet (zsI h r_17 x2.toNatClampNeg (zI h r_18 ((((20 : Int32)) * x1) + x2).toNatClampNeg)) fun h23 => (zR h23 r0 38).bind fun r_24 => (zR h23 r0 40).bind fun r_25 => if zK g r_25 = 100 then if zin ((((20 : Int32)) * x1) + x2) (zL g r_25) then if zK g r_24 = 100 then if zin x2 (zL g r_24) then zlet (zsI h23 r_24 x2.toNatClampNeg (zI h23 r_25 ((((20 : Int32)) * x1) + x2).toNatClampNeg)) fun h30 => zlet (x2 + (1 : Int32)) fun y31 => some (0, (y31, h30)) else none else none else none else none else none else none else none else none
def kX12_back_52 (g : Zh) (r0 : Nat) (e : Nat) (x2 : Int32) (h : Zh) : Option (Int32 × Zh) :=
  zc2 (fX12_granted r0 h) fun v33 h32 => if v33 = 0 ∨ v33 = 1 then some (v33, h32) else none
def fX12_back (r0 : Nat) (x1 : Int32) (h : Zh) : Option (Int32 × Zh) := zlet h fun g =>
  if zK g r0 = 12 then zlet (zsI h r0 0 ((0 : Int32))) fun h2 => if (zR h2 r0 3).isSome = true then if x1 < 0 then zc2 (fX12_denied r0 ((1 : Int32)) h2) fun v7 h6 => if v7 = 0 ∨ v7 = 1 then some (v7, h6) else none else if x1 < (zI h2 r0 44) then (zR h2 r0 41).bind fun r_9 => if zK g r_9 = 100 then if zin x1 (zL g r_9) then zlet (zsI h2 r0 43 (zI h2 r_9 x1.toNatClampNeg)) fun h12 => (zR h12 r0 42).bind fun r_13 => if zK g r_13 = 100 then if zin x1 (zL g r_13) then zlet (zsI h12 r0 45 (zI h12 r_13 x1.toNatClampNeg)) fun h16 => (lp (fun q : Int32 × Zh => bX12_back_52 g r0 x1 q.1 q.2) zB ((0 : Int32), h16)).bind fun q => kX12_back_52 g r0 q.1 q.2.1 q.2.2 else none else none else none else none else zc2 (fX12_denied r0 ((1 : Int32)) h2) fun v36 h35 => if v36 = 0 ∨ v36 = 1 then some (v36, h35) else none else zc2 (fX12_denied r0 ((1 : Int32)) h2) fun v4 h3 => if v4 = 0 ∨ v4 = 1 then some (v4, h3) else none else none
/-! FifthCardModel led -/
def bX12_led_10 (g : Zh) (r0 : Nat) (x1 : Int32) (x2 : Int32) (x3 : Int32) (x4 : Int32) (h : Zh) : Option (Nat × Int32 × Int32 × Zh) :=
  zc2 (fX12_isRule r0 x1 h) fun v4 h3 => if v4 = 0 then some (2, (x3, (x4, h3))) else if (zI h3 r0 17) ≤ x4 then some (2, (x3, (x4, h3))) else zc2 (fX12_laysNow r0 x1 x4 h3) fun v6 h5 => if v6 = ((-2 : Int32)) then if x3 = x2 then some (1, (x3, (x4, h5))) else zlet (x3 + (1 : Int32)) fun y7 => zlet (x4 + (1 : Int32)) fun y8 => some (0, (y7, (y8, h5))) else zlet (x4 + (1 : Int32)) fun y9 => some (0, (x3, (y9, h5)))
def kX12_led_10 (g : Zh) (r0 : Nat) (e : Nat) (x3 : Int32) (x4 : Int32) (h : Zh) : Option (Int32 × Zh) :=
  if e = 1 then some (x4, h) else zlet (zsI h r0 0 ((1 : Int32))) fun h10 => some ((0 : Int32), h10)
def fX12_led (r0 : Nat) (x1 : Int32) (x2 : Int32) (h : Zh) : Option (Int32 × Zh) := zlet h fun g =>
  if zK g r0 = 12 then zlet (zsI h r0 0 ((0 : Int32))) fun h2 => (lp (fun q : Int32 × Int32 × Zh => bX12_led_10 g r0 x1 x2 q.1 q.2.1 q.2.2) zB ((0 : Int32), ((0 : Int32), h2))).bind fun q => kX12_led_10 g r0 q.1 q.2.1 q.2.2.1 q.2.2.2 else none
theorem dX12_hardest_0 : decode cX12_hardest 0 = .ok (.aload_n 0, 1) := by decide +kernel
theorem dX12_hardest_1 : decode cX12_hardest 1 = .ok (.iconst 0, 1) := by decide +kernel
theorem dX12_hardest_2 : decode cX12_hardest 2 = .ok (.putfield 86, 3) := by decide +kernel
theorem dX12_hardest_5 : decode cX12_hardest 5 = .ok (.aload_n 0, 1) := by decide +kernel
theorem dX12_hardest_6 : decode cX12_hardest 6 = .ok (.getfield 329, 3) := by decide +kernel
theorem dX12_hardest_9 : decode cX12_hardest 9 = .ok (.ifnonnull 9, 3) := by decide +kernel
theorem dX12_hardest_12 : decode cX12_hardest 12 = .ok (.aload_n 0, 1) := by decide +kernel
theorem dX12_hardest_13 : decode cX12_hardest 13 = .ok (.iconst 1, 1) := by decide +kernel
theorem dX12_hardest_14 : decode cX12_hardest 14 = .ok (.invokevirtual 92, 3) := by decide +kernel
theorem dX12_hardest_17 : decode cX12_hardest 17 = .ok (.ireturn, 1) := by decide +kernel
theorem dX12_hardest_18 : decode cX12_hardest 18 = .ok (.aload_n 0, 1) := by decide +kernel
theorem dX12_hardest_19 : decode cX12_hardest 19 = .ok (.getfield 329, 3) := by decide +kernel
theorem dX12_hardest_22 : decode cX12_hardest 22 = .ok (.getfield 259, 3) := by decide +kernel
theorem dX12_hardest_25 : decode cX12_hardest 25 = .ok (.iconst 2, 1) := by decide +kernel
theorem dX12_hardest_26 : decode cX12_hardest 26 = .ok (.if_icmp .ge 10, 3) := by decide +kernel
theorem dX12_hardest_29 : decode cX12_hardest 29 = .ok (.aload_n 0, 1) := by decide +kernel
theorem dX12_hardest_30 : decode cX12_hardest 30 = .ok (.bipush 6, 2) := by decide +kernel
theorem dX12_hardest_32 : decode cX12_hardest 32 = .ok (.invokevirtual 92, 3) := by decide +kernel
theorem dX12_hardest_35 : decode cX12_hardest 35 = .ok (.ireturn, 1) := by decide +kernel
theorem dX12_hardest_36 : decode cX12_hardest 36 = .ok (.iconst (-1), 1) := by decide +kernel
theorem dX12_hardest_37 : decode cX12_hardest 37 = .ok (.istore_n 1, 1) := by decide +kernel
theorem dX12_hardest_38 : decode cX12_hardest 38 = .ok (.iconst 0, 1) := by decide +kernel
theorem dX12_hardest_39 : decode cX12_hardest 39 = .ok (.istore_n 2, 1) := by decide +kernel
theorem dX12_hardest_40 : decode cX12_hardest 40 = .ok (.iconst 0, 1) := by decide +kernel
theorem dX12_hardest_41 : decode cX12_hardest 41 = .ok (.istore_n 3, 1) := by decide +kernel
theorem dX12_hardest_42 : decode cX12_hardest 42 = .ok (.iload_n 3, 1) := by decide +kernel
theorem dX12_hardest_43 : decode cX12_hardest 43 = .ok (.aload_n 0, 1) := by decide +kernel
theorem dX12_hardest_44 : decode cX12_hardest 44 = .ok (.getfield 329, 3) := by decide +kernel
theorem dX12_hardest_47 : decode cX12_hardest 47 = .ok (.getfield 259, 3) := by decide +kernel
theorem dX12_hardest_50 : decode cX12_hardest 50 = .ok (.if_icmp .ge 67, 3) := by decide +kernel
theorem dX12_hardest_53 : decode cX12_hardest 53 = .ok (.iconst 0, 1) := by decide +kernel
theorem dX12_hardest_54 : decode cX12_hardest 54 = .ok (.istore 4, 2) := by decide +kernel
theorem dX12_hardest_56 : decode cX12_hardest 56 = .ok (.iload 4, 2) := by decide +kernel
theorem dX12_hardest_58 : decode cX12_hardest 58 = .ok (.aload_n 0, 1) := by decide +kernel
theorem dX12_hardest_59 : decode cX12_hardest 59 = .ok (.getfield 329, 3) := by decide +kernel
theorem dX12_hardest_62 : decode cX12_hardest 62 = .ok (.getfield 259, 3) := by decide +kernel
theorem dX12_hardest_65 : decode cX12_hardest 65 = .ok (.if_icmp .ge 46, 3) := by decide +kernel
theorem dX12_hardest_68 : decode cX12_hardest 68 = .ok (.iload_n 3, 1) := by decide +kernel
theorem dX12_hardest_69 : decode cX12_hardest 69 = .ok (.iload 4, 2) := by decide +kernel
theorem dX12_hardest_71 : decode cX12_hardest 71 = .ok (.if_icmp .ne 6, 3) := by decide +kernel
theorem dX12_hardest_74 : decode cX12_hardest 74 = .ok (.goto 31, 3) := by decide +kernel
theorem dX12_hardest_77 : decode cX12_hardest 77 = .ok (.aload_n 0, 1) := by decide +kernel
theorem dX12_hardest_78 : decode cX12_hardest 78 = .ok (.iload_n 3, 1) := by decide +kernel
theorem dX12_hardest_79 : decode cX12_hardest 79 = .ok (.iload 4, 2) := by decide +kernel
theorem dX12_hardest_81 : decode cX12_hardest 81 = .ok (.invokevirtual 510, 3) := by decide +kernel
theorem dX12_hardest_84 : decode cX12_hardest 84 = .ok (.istore 5, 2) := by decide +kernel
theorem dX12_hardest_86 : decode cX12_hardest 86 = .ok (.iload_n 1, 1) := by decide +kernel
theorem dX12_hardest_87 : decode cX12_hardest 87 = .ok (.iconst (-1), 1) := by decide +kernel
theorem dX12_hardest_88 : decode cX12_hardest 88 = .ok (.if_icmp .eq 12, 3) := by decide +kernel
theorem dX12_hardest_91 : decode cX12_hardest 91 = .ok (.iload 5, 2) := by decide +kernel
theorem dX12_hardest_93 : decode cX12_hardest 93 = .ok (.iload_n 2, 1) := by decide +kernel
theorem dX12_hardest_94 : decode cX12_hardest 94 = .ok (.if_icmp .lt 6, 3) := by decide +kernel
theorem dX12_hardest_97 : decode cX12_hardest 97 = .ok (.goto 8, 3) := by decide +kernel
theorem dX12_hardest_100 : decode cX12_hardest 100 = .ok (.iload_n 3, 1) := by decide +kernel
theorem dX12_hardest_101 : decode cX12_hardest 101 = .ok (.istore_n 1, 1) := by decide +kernel
theorem dX12_hardest_102 : decode cX12_hardest 102 = .ok (.iload 5, 2) := by decide +kernel
theorem dX12_hardest_104 : decode cX12_hardest 104 = .ok (.istore_n 2, 1) := by decide +kernel
theorem dX12_hardest_105 : decode cX12_hardest 105 = .ok (.iinc 4 1, 3) := by decide +kernel
theorem dX12_hardest_108 : decode cX12_hardest 108 = .ok (.goto (-52), 3) := by decide +kernel
theorem dX12_hardest_111 : decode cX12_hardest 111 = .ok (.iinc 3 1, 3) := by decide +kernel
theorem dX12_hardest_114 : decode cX12_hardest 114 = .ok (.goto (-72), 3) := by decide +kernel
theorem dX12_hardest_117 : decode cX12_hardest 117 = .ok (.aload_n 0, 1) := by decide +kernel
theorem dX12_hardest_118 : decode cX12_hardest 118 = .ok (.iload_n 1, 1) := by decide +kernel
theorem dX12_hardest_119 : decode cX12_hardest 119 = .ok (.invokevirtual 96, 3) := by decide +kernel
theorem dX12_hardest_122 : decode cX12_hardest 122 = .ok (.ireturn, 1) := by decide +kernel
theorem dX12_shows_0 : decode cX12_shows 0 = .ok (.aload_n 0, 1) := by decide +kernel
theorem dX12_shows_1 : decode cX12_shows 1 = .ok (.iconst 0, 1) := by decide +kernel
theorem dX12_shows_2 : decode cX12_shows 2 = .ok (.putfield 86, 3) := by decide +kernel
theorem dX12_shows_5 : decode cX12_shows 5 = .ok (.aload_n 0, 1) := by decide +kernel
theorem dX12_shows_6 : decode cX12_shows 6 = .ok (.iload_n 1, 1) := by decide +kernel
theorem dX12_shows_7 : decode cX12_shows 7 = .ok (.invokevirtual 430, 3) := by decide +kernel
theorem dX12_shows_10 : decode cX12_shows 10 = .ok (.ifCond .eq 11, 3) := by decide +kernel
theorem dX12_shows_13 : decode cX12_shows 13 = .ok (.aload_n 0, 1) := by decide +kernel
theorem dX12_shows_14 : decode cX12_shows 14 = .ok (.iload_n 2, 1) := by decide +kernel
theorem dX12_shows_15 : decode cX12_shows 15 = .ok (.invokevirtual 375, 3) := by decide +kernel
theorem dX12_shows_18 : decode cX12_shows 18 = .ok (.ifCond .ne 9, 3) := by decide +kernel
theorem dX12_shows_21 : decode cX12_shows 21 = .ok (.aload_n 0, 1) := by decide +kernel
theorem dX12_shows_22 : decode cX12_shows 22 = .ok (.iconst 1, 1) := by decide +kernel
theorem dX12_shows_23 : decode cX12_shows 23 = .ok (.invokevirtual 92, 3) := by decide +kernel
theorem dX12_shows_26 : decode cX12_shows 26 = .ok (.ireturn, 1) := by decide +kernel
theorem dX12_shows_27 : decode cX12_shows 27 = .ok (.aload_n 0, 1) := by decide +kernel
theorem dX12_shows_28 : decode cX12_shows 28 = .ok (.iload_n 1, 1) := by decide +kernel
theorem dX12_shows_29 : decode cX12_shows 29 = .ok (.iload_n 2, 1) := by decide +kernel
theorem dX12_shows_30 : decode cX12_shows 30 = .ok (.invokevirtual 433, 3) := by decide +kernel
theorem dX12_shows_33 : decode cX12_shows 33 = .ok (.istore_n 3, 1) := by decide +kernel
theorem dX12_shows_34 : decode cX12_shows 34 = .ok (.iload_n 3, 1) := by decide +kernel
theorem dX12_shows_35 : decode cX12_shows 35 = .ok (.bipush (-2), 2) := by decide +kernel
theorem dX12_shows_37 : decode cX12_shows 37 = .ok (.if_icmp .ne 10, 3) := by decide +kernel
theorem dX12_shows_40 : decode cX12_shows 40 = .ok (.aload_n 0, 1) := by decide +kernel
theorem dX12_shows_41 : decode cX12_shows 41 = .ok (.bipush 6, 2) := by decide +kernel
theorem dX12_shows_43 : decode cX12_shows 43 = .ok (.invokevirtual 92, 3) := by decide +kernel
theorem dX12_shows_46 : decode cX12_shows 46 = .ok (.ireturn, 1) := by decide +kernel
theorem dX12_shows_47 : decode cX12_shows 47 = .ok (.aload_n 0, 1) := by decide +kernel
theorem dX12_shows_48 : decode cX12_shows 48 = .ok (.getfield 346, 3) := by decide +kernel
theorem dX12_shows_51 : decode cX12_shows 51 = .ok (.bipush 20, 2) := by decide +kernel
theorem dX12_shows_53 : decode cX12_shows 53 = .ok (.if_icmp .ne 9, 3) := by decide +kernel
theorem dX12_shows_56 : decode cX12_shows 56 = .ok (.aload_n 0, 1) := by decide +kernel
theorem dX12_shows_57 : decode cX12_shows 57 = .ok (.iconst 3, 1) := by decide +kernel
theorem dX12_shows_58 : decode cX12_shows 58 = .ok (.invokevirtual 92, 3) := by decide +kernel
theorem dX12_shows_61 : decode cX12_shows 61 = .ok (.ireturn, 1) := by decide +kernel
theorem dX12_shows_62 : decode cX12_shows 62 = .ok (.aload_n 0, 1) := by decide +kernel
theorem dX12_shows_63 : decode cX12_shows 63 = .ok (.getfield 68, 3) := by decide +kernel
theorem dX12_shows_66 : decode cX12_shows 66 = .ok (.aload_n 0, 1) := by decide +kernel
theorem dX12_shows_67 : decode cX12_shows 67 = .ok (.getfield 346, 3) := by decide +kernel
theorem dX12_shows_70 : decode cX12_shows 70 = .ok (.iload_n 2, 1) := by decide +kernel
theorem dX12_shows_71 : decode cX12_shows 71 = .ok (.iastore, 1) := by decide +kernel
theorem dX12_shows_72 : decode cX12_shows 72 = .ok (.aload_n 0, 1) := by decide +kernel
theorem dX12_shows_73 : decode cX12_shows 73 = .ok (.getfield 71, 3) := by decide +kernel
theorem dX12_shows_76 : decode cX12_shows 76 = .ok (.aload_n 0, 1) := by decide +kernel
theorem dX12_shows_77 : decode cX12_shows 77 = .ok (.getfield 346, 3) := by decide +kernel
theorem dX12_shows_80 : decode cX12_shows 80 = .ok (.iload_n 3, 1) := by decide +kernel
theorem dX12_shows_81 : decode cX12_shows 81 = .ok (.iastore, 1) := by decide +kernel
theorem dX12_shows_82 : decode cX12_shows 82 = .ok (.aload_n 0, 1) := by decide +kernel
theorem dX12_shows_83 : decode cX12_shows 83 = .ok (.dup, 1) := by decide +kernel
theorem dX12_shows_84 : decode cX12_shows 84 = .ok (.getfield 346, 3) := by decide +kernel
theorem dX12_shows_87 : decode cX12_shows 87 = .ok (.iconst 1, 1) := by decide +kernel
theorem dX12_shows_88 : decode cX12_shows 88 = .ok (.iadd, 1) := by decide +kernel
theorem dX12_shows_89 : decode cX12_shows 89 = .ok (.putfield 346, 3) := by decide +kernel
theorem dX12_shows_92 : decode cX12_shows 92 = .ok (.aload_n 0, 1) := by decide +kernel
theorem dX12_shows_93 : decode cX12_shows 93 = .ok (.aload_n 0, 1) := by decide +kernel
theorem dX12_shows_94 : decode cX12_shows 94 = .ok (.getfield 346, 3) := by decide +kernel
theorem dX12_shows_97 : decode cX12_shows 97 = .ok (.iconst 1, 1) := by decide +kernel
theorem dX12_shows_98 : decode cX12_shows 98 = .ok (.isub, 1) := by decide +kernel
theorem dX12_shows_99 : decode cX12_shows 99 = .ok (.invokevirtual 96, 3) := by decide +kernel
theorem dX12_shows_102 : decode cX12_shows 102 = .ok (.ireturn, 1) := by decide +kernel
theorem dX12_seed_0 : decode cX12_seed 0 = .ok (.aload_n 0, 1) := by decide +kernel
theorem dX12_seed_1 : decode cX12_seed 1 = .ok (.iconst 0, 1) := by decide +kernel
theorem dX12_seed_2 : decode cX12_seed 2 = .ok (.putfield 86, 3) := by decide +kernel
theorem dX12_seed_5 : decode cX12_seed 5 = .ok (.aload_n 0, 1) := by decide +kernel
theorem dX12_seed_6 : decode cX12_seed 6 = .ok (.getfield 329, 3) := by decide +kernel
theorem dX12_seed_9 : decode cX12_seed 9 = .ok (.ifnonnull 9, 3) := by decide +kernel
theorem dX12_seed_12 : decode cX12_seed 12 = .ok (.aload_n 0, 1) := by decide +kernel
theorem dX12_seed_13 : decode cX12_seed 13 = .ok (.iconst 1, 1) := by decide +kernel
theorem dX12_seed_14 : decode cX12_seed 14 = .ok (.invokevirtual 516, 3) := by decide +kernel
theorem dX12_seed_17 : decode cX12_seed 17 = .ok (.ireturn, 1) := by decide +kernel
theorem dX12_seed_18 : decode cX12_seed 18 = .ok (.iload_n 1, 1) := by decide +kernel
theorem dX12_seed_19 : decode cX12_seed 19 = .ok (.iconst 0, 1) := by decide +kernel
theorem dX12_seed_20 : decode cX12_seed 20 = .ok (.ldc_w 519, 3) := by decide +kernel
theorem dX12_seed_23 : decode cX12_seed 23 = .ok (.invokestatic 168, 3) := by decide +kernel
theorem dX12_seed_26 : decode cX12_seed 26 = .ok (.ifCond .ne 9, 3) := by decide +kernel
theorem dX12_seed_29 : decode cX12_seed 29 = .ok (.aload_n 0, 1) := by decide +kernel
theorem dX12_seed_30 : decode cX12_seed 30 = .ok (.iconst 2, 1) := by decide +kernel
theorem dX12_seed_31 : decode cX12_seed 31 = .ok (.invokevirtual 516, 3) := by decide +kernel
theorem dX12_seed_34 : decode cX12_seed 34 = .ok (.ireturn, 1) := by decide +kernel
theorem dX12_seed_35 : decode cX12_seed 35 = .ok (.aload_n 0, 1) := by decide +kernel
theorem dX12_seed_36 : decode cX12_seed 36 = .ok (.iload_n 1, 1) := by decide +kernel
theorem dX12_seed_37 : decode cX12_seed 37 = .ok (.putfield 331, 3) := by decide +kernel
theorem dX12_seed_40 : decode cX12_seed 40 = .ok (.aload_n 0, 1) := by decide +kernel
theorem dX12_seed_41 : decode cX12_seed 41 = .ok (.invokevirtual 520, 3) := by decide +kernel
theorem dX12_seed_44 : decode cX12_seed 44 = .ok (.ireturn, 1) := by decide +kernel
theorem dX12_draw_0 : decode cX12_draw 0 = .ok (.aload_n 0, 1) := by decide +kernel
theorem dX12_draw_1 : decode cX12_draw 1 = .ok (.iconst 0, 1) := by decide +kernel
theorem dX12_draw_2 : decode cX12_draw 2 = .ok (.putfield 86, 3) := by decide +kernel
theorem dX12_draw_5 : decode cX12_draw 5 = .ok (.aload_n 0, 1) := by decide +kernel
theorem dX12_draw_6 : decode cX12_draw 6 = .ok (.getfield 329, 3) := by decide +kernel
theorem dX12_draw_9 : decode cX12_draw 9 = .ok (.ifnonnull 9, 3) := by decide +kernel
theorem dX12_draw_12 : decode cX12_draw 12 = .ok (.aload_n 0, 1) := by decide +kernel
theorem dX12_draw_13 : decode cX12_draw 13 = .ok (.iconst 1, 1) := by decide +kernel
theorem dX12_draw_14 : decode cX12_draw 14 = .ok (.invokevirtual 92, 3) := by decide +kernel
theorem dX12_draw_17 : decode cX12_draw 17 = .ok (.ireturn, 1) := by decide +kernel
theorem dX12_draw_18 : decode cX12_draw 18 = .ok (.aload_n 0, 1) := by decide +kernel
theorem dX12_draw_19 : decode cX12_draw 19 = .ok (.ldc2_w 523, 3) := by decide +kernel
theorem dX12_draw_22 : decode cX12_draw 22 = .ok (.aload_n 0, 1) := by decide +kernel
theorem dX12_draw_23 : decode cX12_draw 23 = .ok (.getfield 331, 3) := by decide +kernel
theorem dX12_draw_26 : decode cX12_draw 26 = .ok (.i2l, 1) := by decide +kernel
theorem dX12_draw_27 : decode cX12_draw 27 = .ok (.lmul, 1) := by decide +kernel
theorem dX12_draw_28 : decode cX12_draw 28 = .ok (.ldc2_w 525, 3) := by decide +kernel
theorem dX12_draw_31 : decode cX12_draw 31 = .ok (.ladd, 1) := by decide +kernel
theorem dX12_draw_32 : decode cX12_draw 32 = .ok (.ldc2_w 527, 3) := by decide +kernel
theorem dX12_draw_35 : decode cX12_draw 35 = .ok (.lrem, 1) := by decide +kernel
theorem dX12_draw_36 : decode cX12_draw 36 = .ok (.l2i, 1) := by decide +kernel
theorem dX12_draw_37 : decode cX12_draw 37 = .ok (.putfield 331, 3) := by decide +kernel
theorem dX12_draw_40 : decode cX12_draw 40 = .ok (.aload_n 0, 1) := by decide +kernel
theorem dX12_draw_41 : decode cX12_draw 41 = .ok (.aload_n 0, 1) := by decide +kernel
theorem dX12_draw_42 : decode cX12_draw 42 = .ok (.getfield 331, 3) := by decide +kernel
theorem dX12_draw_45 : decode cX12_draw 45 = .ok (.aload_n 0, 1) := by decide +kernel
theorem dX12_draw_46 : decode cX12_draw 46 = .ok (.getfield 356, 3) := by decide +kernel
theorem dX12_draw_49 : decode cX12_draw 49 = .ok (.irem, 1) := by decide +kernel
theorem dX12_draw_50 : decode cX12_draw 50 = .ok (.invokevirtual 96, 3) := by decide +kernel
theorem dX12_draw_53 : decode cX12_draw 53 = .ok (.ireturn, 1) := by decide +kernel
theorem dX12_strike_0 : decode cX12_strike 0 = .ok (.aload_n 0, 1) := by decide +kernel
theorem dX12_strike_1 : decode cX12_strike 1 = .ok (.iconst 0, 1) := by decide +kernel
theorem dX12_strike_2 : decode cX12_strike 2 = .ok (.putfield 86, 3) := by decide +kernel
theorem dX12_strike_5 : decode cX12_strike 5 = .ok (.aload_n 0, 1) := by decide +kernel
theorem dX12_strike_6 : decode cX12_strike 6 = .ok (.getfield 329, 3) := by decide +kernel
theorem dX12_strike_9 : decode cX12_strike 9 = .ok (.ifnull 10, 3) := by decide +kernel
theorem dX12_strike_12 : decode cX12_strike 12 = .ok (.aload_n 0, 1) := by decide +kernel
theorem dX12_strike_13 : decode cX12_strike 13 = .ok (.getfield 346, 3) := by decide +kernel
theorem dX12_strike_16 : decode cX12_strike 16 = .ok (.ifCond .ne 10, 3) := by decide +kernel
theorem dX12_strike_19 : decode cX12_strike 19 = .ok (.aload_n 0, 1) := by decide +kernel
theorem dX12_strike_20 : decode cX12_strike 20 = .ok (.bipush 6, 2) := by decide +kernel
theorem dX12_strike_22 : decode cX12_strike 22 = .ok (.invokevirtual 516, 3) := by decide +kernel
theorem dX12_strike_25 : decode cX12_strike 25 = .ok (.ireturn, 1) := by decide +kernel
theorem dX12_strike_26 : decode cX12_strike 26 = .ok (.aload_n 0, 1) := by decide +kernel
theorem dX12_strike_27 : decode cX12_strike 27 = .ok (.dup, 1) := by decide +kernel
theorem dX12_strike_28 : decode cX12_strike 28 = .ok (.getfield 346, 3) := by decide +kernel
theorem dX12_strike_31 : decode cX12_strike 31 = .ok (.iconst 1, 1) := by decide +kernel
theorem dX12_strike_32 : decode cX12_strike 32 = .ok (.isub, 1) := by decide +kernel
theorem dX12_strike_33 : decode cX12_strike 33 = .ok (.putfield 346, 3) := by decide +kernel
theorem dX12_strike_36 : decode cX12_strike 36 = .ok (.aload_n 0, 1) := by decide +kernel
theorem dX12_strike_37 : decode cX12_strike 37 = .ok (.invokevirtual 520, 3) := by decide +kernel
theorem dX12_strike_40 : decode cX12_strike 40 = .ok (.ireturn, 1) := by decide +kernel
theorem dX12_image_0 : decode cX12_image 0 = .ok (.aload_n 0, 1) := by decide +kernel
theorem dX12_image_1 : decode cX12_image 1 = .ok (.iconst 0, 1) := by decide +kernel
theorem dX12_image_2 : decode cX12_image 2 = .ok (.putfield 86, 3) := by decide +kernel
theorem dX12_image_5 : decode cX12_image 5 = .ok (.aload_n 0, 1) := by decide +kernel
theorem dX12_image_6 : decode cX12_image 6 = .ok (.getfield 329, 3) := by decide +kernel
theorem dX12_image_9 : decode cX12_image 9 = .ok (.ifnonnull 9, 3) := by decide +kernel
theorem dX12_image_12 : decode cX12_image 12 = .ok (.aload_n 0, 1) := by decide +kernel
theorem dX12_image_13 : decode cX12_image 13 = .ok (.iconst 1, 1) := by decide +kernel
theorem dX12_image_14 : decode cX12_image 14 = .ok (.invokevirtual 92, 3) := by decide +kernel
theorem dX12_image_17 : decode cX12_image 17 = .ok (.ireturn, 1) := by decide +kernel
theorem dX12_image_18 : decode cX12_image 18 = .ok (.aload_n 0, 1) := by decide +kernel
theorem dX12_image_19 : decode cX12_image 19 = .ok (.getfield 334, 3) := by decide +kernel
theorem dX12_image_22 : decode cX12_image 22 = .ok (.iconst 3, 1) := by decide +kernel
theorem dX12_image_23 : decode cX12_image 23 = .ok (.if_icmp .ne 9, 3) := by decide +kernel
theorem dX12_image_26 : decode cX12_image 26 = .ok (.aload_n 0, 1) := by decide +kernel
theorem dX12_image_27 : decode cX12_image 27 = .ok (.iconst 3, 1) := by decide +kernel
theorem dX12_image_28 : decode cX12_image 28 = .ok (.invokevirtual 92, 3) := by decide +kernel
theorem dX12_image_31 : decode cX12_image 31 = .ok (.ireturn, 1) := by decide +kernel
theorem dX12_image_32 : decode cX12_image 32 = .ok (.iconst 0, 1) := by decide +kernel
theorem dX12_image_33 : decode cX12_image 33 = .ok (.istore_n 1, 1) := by decide +kernel
theorem dX12_image_34 : decode cX12_image 34 = .ok (.iload_n 1, 1) := by decide +kernel
theorem dX12_image_35 : decode cX12_image 35 = .ok (.aload_n 0, 1) := by decide +kernel
theorem dX12_image_36 : decode cX12_image 36 = .ok (.getfield 346, 3) := by decide +kernel
theorem dX12_image_39 : decode cX12_image 39 = .ok (.if_icmp .ge 49, 3) := by decide +kernel
theorem dX12_image_42 : decode cX12_image 42 = .ok (.aload_n 0, 1) := by decide +kernel
theorem dX12_image_43 : decode cX12_image 43 = .ok (.getfield 74, 3) := by decide +kernel
theorem dX12_image_46 : decode cX12_image 46 = .ok (.bipush 20, 2) := by decide +kernel
theorem dX12_image_48 : decode cX12_image 48 = .ok (.aload_n 0, 1) := by decide +kernel
theorem dX12_image_49 : decode cX12_image 49 = .ok (.getfield 334, 3) := by decide +kernel
theorem dX12_image_52 : decode cX12_image 52 = .ok (.imul, 1) := by decide +kernel
theorem dX12_image_53 : decode cX12_image 53 = .ok (.iload_n 1, 1) := by decide +kernel
theorem dX12_image_54 : decode cX12_image 54 = .ok (.iadd, 1) := by decide +kernel
theorem dX12_image_55 : decode cX12_image 55 = .ok (.aload_n 0, 1) := by decide +kernel
theorem dX12_image_56 : decode cX12_image 56 = .ok (.getfield 68, 3) := by decide +kernel
theorem dX12_image_59 : decode cX12_image 59 = .ok (.iload_n 1, 1) := by decide +kernel
theorem dX12_image_60 : decode cX12_image 60 = .ok (.iaload, 1) := by decide +kernel
theorem dX12_image_61 : decode cX12_image 61 = .ok (.iastore, 1) := by decide +kernel
theorem dX12_image_62 : decode cX12_image 62 = .ok (.aload_n 0, 1) := by decide +kernel
theorem dX12_image_63 : decode cX12_image 63 = .ok (.getfield 77, 3) := by decide +kernel
theorem dX12_image_66 : decode cX12_image 66 = .ok (.bipush 20, 2) := by decide +kernel
theorem dX12_image_68 : decode cX12_image 68 = .ok (.aload_n 0, 1) := by decide +kernel
theorem dX12_image_69 : decode cX12_image 69 = .ok (.getfield 334, 3) := by decide +kernel
theorem dX12_image_72 : decode cX12_image 72 = .ok (.imul, 1) := by decide +kernel
theorem dX12_image_73 : decode cX12_image 73 = .ok (.iload_n 1, 1) := by decide +kernel
theorem dX12_image_74 : decode cX12_image 74 = .ok (.iadd, 1) := by decide +kernel
theorem dX12_image_75 : decode cX12_image 75 = .ok (.aload_n 0, 1) := by decide +kernel
theorem dX12_image_76 : decode cX12_image 76 = .ok (.getfield 71, 3) := by decide +kernel
theorem dX12_image_79 : decode cX12_image 79 = .ok (.iload_n 1, 1) := by decide +kernel
theorem dX12_image_80 : decode cX12_image 80 = .ok (.iaload, 1) := by decide +kernel
theorem dX12_image_81 : decode cX12_image 81 = .ok (.iastore, 1) := by decide +kernel
theorem dX12_image_82 : decode cX12_image 82 = .ok (.iinc 1 1, 3) := by decide +kernel
theorem dX12_image_85 : decode cX12_image 85 = .ok (.goto (-51), 3) := by decide +kernel
theorem dX12_image_88 : decode cX12_image 88 = .ok (.aload_n 0, 1) := by decide +kernel
theorem dX12_image_89 : decode cX12_image 89 = .ok (.getfield 80, 3) := by decide +kernel
theorem dX12_image_92 : decode cX12_image 92 = .ok (.aload_n 0, 1) := by decide +kernel
theorem dX12_image_93 : decode cX12_image 93 = .ok (.getfield 334, 3) := by decide +kernel
theorem dX12_image_96 : decode cX12_image 96 = .ok (.aload_n 0, 1) := by decide +kernel
theorem dX12_image_97 : decode cX12_image 97 = .ok (.getfield 346, 3) := by decide +kernel
theorem dX12_image_100 : decode cX12_image 100 = .ok (.iastore, 1) := by decide +kernel
theorem dX12_image_101 : decode cX12_image 101 = .ok (.aload_n 0, 1) := by decide +kernel
theorem dX12_image_102 : decode cX12_image 102 = .ok (.getfield 83, 3) := by decide +kernel
theorem dX12_image_105 : decode cX12_image 105 = .ok (.aload_n 0, 1) := by decide +kernel
theorem dX12_image_106 : decode cX12_image 106 = .ok (.getfield 334, 3) := by decide +kernel
theorem dX12_image_109 : decode cX12_image 109 = .ok (.aload_n 0, 1) := by decide +kernel
theorem dX12_image_110 : decode cX12_image 110 = .ok (.getfield 331, 3) := by decide +kernel
theorem dX12_image_113 : decode cX12_image 113 = .ok (.iastore, 1) := by decide +kernel
theorem dX12_image_114 : decode cX12_image 114 = .ok (.aload_n 0, 1) := by decide +kernel
theorem dX12_image_115 : decode cX12_image 115 = .ok (.dup, 1) := by decide +kernel
theorem dX12_image_116 : decode cX12_image 116 = .ok (.getfield 334, 3) := by decide +kernel
theorem dX12_image_119 : decode cX12_image 119 = .ok (.iconst 1, 1) := by decide +kernel
theorem dX12_image_120 : decode cX12_image 120 = .ok (.iadd, 1) := by decide +kernel
theorem dX12_image_121 : decode cX12_image 121 = .ok (.putfield 334, 3) := by decide +kernel
theorem dX12_image_124 : decode cX12_image 124 = .ok (.aload_n 0, 1) := by decide +kernel
theorem dX12_image_125 : decode cX12_image 125 = .ok (.aload_n 0, 1) := by decide +kernel
theorem dX12_image_126 : decode cX12_image 126 = .ok (.getfield 334, 3) := by decide +kernel
theorem dX12_image_129 : decode cX12_image 129 = .ok (.iconst 1, 1) := by decide +kernel
theorem dX12_image_130 : decode cX12_image 130 = .ok (.isub, 1) := by decide +kernel
theorem dX12_image_131 : decode cX12_image 131 = .ok (.invokevirtual 96, 3) := by decide +kernel
theorem dX12_image_134 : decode cX12_image 134 = .ok (.ireturn, 1) := by decide +kernel
theorem dX12_back_0 : decode cX12_back 0 = .ok (.aload_n 0, 1) := by decide +kernel
theorem dX12_back_1 : decode cX12_back 1 = .ok (.iconst 0, 1) := by decide +kernel
theorem dX12_back_2 : decode cX12_back 2 = .ok (.putfield 86, 3) := by decide +kernel
theorem dX12_back_5 : decode cX12_back 5 = .ok (.aload_n 0, 1) := by decide +kernel
theorem dX12_back_6 : decode cX12_back 6 = .ok (.getfield 329, 3) := by decide +kernel
theorem dX12_back_9 : decode cX12_back 9 = .ok (.ifnull 15, 3) := by decide +kernel
theorem dX12_back_12 : decode cX12_back 12 = .ok (.iload_n 1, 1) := by decide +kernel
theorem dX12_back_13 : decode cX12_back 13 = .ok (.ifCond .lt 11, 3) := by decide +kernel
theorem dX12_back_16 : decode cX12_back 16 = .ok (.iload_n 1, 1) := by decide +kernel
theorem dX12_back_17 : decode cX12_back 17 = .ok (.aload_n 0, 1) := by decide +kernel
theorem dX12_back_18 : decode cX12_back 18 = .ok (.getfield 334, 3) := by decide +kernel
theorem dX12_back_21 : decode cX12_back 21 = .ok (.if_icmp .lt 9, 3) := by decide +kernel
theorem dX12_back_24 : decode cX12_back 24 = .ok (.aload_n 0, 1) := by decide +kernel
theorem dX12_back_25 : decode cX12_back 25 = .ok (.iconst 1, 1) := by decide +kernel
theorem dX12_back_26 : decode cX12_back 26 = .ok (.invokevirtual 516, 3) := by decide +kernel
theorem dX12_back_29 : decode cX12_back 29 = .ok (.ireturn, 1) := by decide +kernel
theorem dX12_back_30 : decode cX12_back 30 = .ok (.aload_n 0, 1) := by decide +kernel
theorem dX12_back_31 : decode cX12_back 31 = .ok (.aload_n 0, 1) := by decide +kernel
theorem dX12_back_32 : decode cX12_back 32 = .ok (.getfield 80, 3) := by decide +kernel
theorem dX12_back_35 : decode cX12_back 35 = .ok (.iload_n 1, 1) := by decide +kernel
theorem dX12_back_36 : decode cX12_back 36 = .ok (.iaload, 1) := by decide +kernel
theorem dX12_back_37 : decode cX12_back 37 = .ok (.putfield 346, 3) := by decide +kernel
theorem dX12_back_40 : decode cX12_back 40 = .ok (.aload_n 0, 1) := by decide +kernel
theorem dX12_back_41 : decode cX12_back 41 = .ok (.aload_n 0, 1) := by decide +kernel
theorem dX12_back_42 : decode cX12_back 42 = .ok (.getfield 83, 3) := by decide +kernel
theorem dX12_back_45 : decode cX12_back 45 = .ok (.iload_n 1, 1) := by decide +kernel
theorem dX12_back_46 : decode cX12_back 46 = .ok (.iaload, 1) := by decide +kernel
theorem dX12_back_47 : decode cX12_back 47 = .ok (.putfield 331, 3) := by decide +kernel
theorem dX12_back_50 : decode cX12_back 50 = .ok (.iconst 0, 1) := by decide +kernel
theorem dX12_back_51 : decode cX12_back 51 = .ok (.istore_n 2, 1) := by decide +kernel
theorem dX12_back_52 : decode cX12_back 52 = .ok (.iload_n 2, 1) := by decide +kernel
theorem dX12_back_53 : decode cX12_back 53 = .ok (.aload_n 0, 1) := by decide +kernel
theorem dX12_back_54 : decode cX12_back 54 = .ok (.getfield 346, 3) := by decide +kernel
theorem dX12_back_57 : decode cX12_back 57 = .ok (.if_icmp .ge 43, 3) := by decide +kernel
theorem dX12_back_60 : decode cX12_back 60 = .ok (.aload_n 0, 1) := by decide +kernel
theorem dX12_back_61 : decode cX12_back 61 = .ok (.getfield 68, 3) := by decide +kernel
theorem dX12_back_64 : decode cX12_back 64 = .ok (.iload_n 2, 1) := by decide +kernel
theorem dX12_back_65 : decode cX12_back 65 = .ok (.aload_n 0, 1) := by decide +kernel
theorem dX12_back_66 : decode cX12_back 66 = .ok (.getfield 74, 3) := by decide +kernel
theorem dX12_back_69 : decode cX12_back 69 = .ok (.bipush 20, 2) := by decide +kernel
theorem dX12_back_71 : decode cX12_back 71 = .ok (.iload_n 1, 1) := by decide +kernel
theorem dX12_back_72 : decode cX12_back 72 = .ok (.imul, 1) := by decide +kernel
theorem dX12_back_73 : decode cX12_back 73 = .ok (.iload_n 2, 1) := by decide +kernel
theorem dX12_back_74 : decode cX12_back 74 = .ok (.iadd, 1) := by decide +kernel
theorem dX12_back_75 : decode cX12_back 75 = .ok (.iaload, 1) := by decide +kernel
theorem dX12_back_76 : decode cX12_back 76 = .ok (.iastore, 1) := by decide +kernel
theorem dX12_back_77 : decode cX12_back 77 = .ok (.aload_n 0, 1) := by decide +kernel
theorem dX12_back_78 : decode cX12_back 78 = .ok (.getfield 71, 3) := by decide +kernel
theorem dX12_back_81 : decode cX12_back 81 = .ok (.iload_n 2, 1) := by decide +kernel
theorem dX12_back_82 : decode cX12_back 82 = .ok (.aload_n 0, 1) := by decide +kernel
theorem dX12_back_83 : decode cX12_back 83 = .ok (.getfield 77, 3) := by decide +kernel
theorem dX12_back_86 : decode cX12_back 86 = .ok (.bipush 20, 2) := by decide +kernel
theorem dX12_back_88 : decode cX12_back 88 = .ok (.iload_n 1, 1) := by decide +kernel
theorem dX12_back_89 : decode cX12_back 89 = .ok (.imul, 1) := by decide +kernel
theorem dX12_back_90 : decode cX12_back 90 = .ok (.iload_n 2, 1) := by decide +kernel
theorem dX12_back_91 : decode cX12_back 91 = .ok (.iadd, 1) := by decide +kernel
theorem dX12_back_92 : decode cX12_back 92 = .ok (.iaload, 1) := by decide +kernel
theorem dX12_back_93 : decode cX12_back 93 = .ok (.iastore, 1) := by decide +kernel
theorem dX12_back_94 : decode cX12_back 94 = .ok (.iinc 2 1, 3) := by decide +kernel
theorem dX12_back_97 : decode cX12_back 97 = .ok (.goto (-45), 3) := by decide +kernel
theorem dX12_back_100 : decode cX12_back 100 = .ok (.aload_n 0, 1) := by decide +kernel
theorem dX12_back_101 : decode cX12_back 101 = .ok (.invokevirtual 520, 3) := by decide +kernel
theorem dX12_back_104 : decode cX12_back 104 = .ok (.ireturn, 1) := by decide +kernel
theorem dX12_led_0 : decode cX12_led 0 = .ok (.aload_n 0, 1) := by decide +kernel
theorem dX12_led_1 : decode cX12_led 1 = .ok (.iconst 0, 1) := by decide +kernel
theorem dX12_led_2 : decode cX12_led 2 = .ok (.putfield 86, 3) := by decide +kernel
theorem dX12_led_5 : decode cX12_led 5 = .ok (.iconst 0, 1) := by decide +kernel
theorem dX12_led_6 : decode cX12_led 6 = .ok (.istore_n 3, 1) := by decide +kernel
theorem dX12_led_7 : decode cX12_led 7 = .ok (.iconst 0, 1) := by decide +kernel
theorem dX12_led_8 : decode cX12_led 8 = .ok (.istore 4, 2) := by decide +kernel
theorem dX12_led_10 : decode cX12_led 10 = .ok (.aload_n 0, 1) := by decide +kernel
theorem dX12_led_11 : decode cX12_led 11 = .ok (.iload_n 1, 1) := by decide +kernel
theorem dX12_led_12 : decode cX12_led 12 = .ok (.invokevirtual 430, 3) := by decide +kernel
theorem dX12_led_15 : decode cX12_led 15 = .ok (.ifCond .eq 44, 3) := by decide +kernel
theorem dX12_led_18 : decode cX12_led 18 = .ok (.iload 4, 2) := by decide +kernel
theorem dX12_led_20 : decode cX12_led 20 = .ok (.aload_n 0, 1) := by decide +kernel
theorem dX12_led_21 : decode cX12_led 21 = .ok (.getfield 356, 3) := by decide +kernel
theorem dX12_led_24 : decode cX12_led 24 = .ok (.if_icmp .ge 35, 3) := by decide +kernel
theorem dX12_led_27 : decode cX12_led 27 = .ok (.aload_n 0, 1) := by decide +kernel
theorem dX12_led_28 : decode cX12_led 28 = .ok (.iload_n 1, 1) := by decide +kernel
theorem dX12_led_29 : decode cX12_led 29 = .ok (.iload 4, 2) := by decide +kernel
theorem dX12_led_31 : decode cX12_led 31 = .ok (.invokevirtual 433, 3) := by decide +kernel
theorem dX12_led_34 : decode cX12_led 34 = .ok (.bipush (-2), 2) := by decide +kernel
theorem dX12_led_36 : decode cX12_led 36 = .ok (.if_icmp .eq 6, 3) := by decide +kernel
theorem dX12_led_39 : decode cX12_led 39 = .ok (.goto 14, 3) := by decide +kernel
theorem dX12_led_42 : decode cX12_led 42 = .ok (.iload_n 3, 1) := by decide +kernel
theorem dX12_led_43 : decode cX12_led 43 = .ok (.iload_n 2, 1) := by decide +kernel
theorem dX12_led_44 : decode cX12_led 44 = .ok (.if_icmp .ne 6, 3) := by decide +kernel
theorem dX12_led_47 : decode cX12_led 47 = .ok (.iload 4, 2) := by decide +kernel
theorem dX12_led_49 : decode cX12_led 49 = .ok (.ireturn, 1) := by decide +kernel
theorem dX12_led_50 : decode cX12_led 50 = .ok (.iinc 3 1, 3) := by decide +kernel
theorem dX12_led_53 : decode cX12_led 53 = .ok (.iinc 4 1, 3) := by decide +kernel
theorem dX12_led_56 : decode cX12_led 56 = .ok (.goto (-46), 3) := by decide +kernel
theorem dX12_led_59 : decode cX12_led 59 = .ok (.aload_n 0, 1) := by decide +kernel
theorem dX12_led_60 : decode cX12_led 60 = .ok (.iconst 1, 1) := by decide +kernel
theorem dX12_led_61 : decode cX12_led 61 = .ok (.putfield 86, 3) := by decide +kernel
theorem dX12_led_64 : decode cX12_led 64 = .ok (.iconst 0, 1) := by decide +kernel
theorem dX12_led_65 : decode cX12_led 65 = .ok (.ireturn, 1) := by decide +kernel
set_option maxHeartbeats 4000000 in
set_option maxRecDepth 100000 in
theorem sX12_hardest {l : Launch} {D : va_G} {cA : Nat → ClassId} {base : Nat} {sA : Nat → Nat} {r0 : Nat} {h hE : Zh} {rE : Int32} (hf : fX12_hardest r0 h = some (rE, hE)) : zC l yX12_hardest cX12_hardest 6 (some .int) 8 193 D cA base sA [.ref (base + r0)] h (some (.int rE)) hE := by
  refine g_entry RX12 (by decide) rfl (Nat.le_of_ble_eq_true rfl) ?_
  intro p e s m args below meth c X hr
  unfold fX12_hardest at hf
  have hf := zlet_n (x := h) rfl hf
  show zG p l e { frames := 8, cells := 0, slots := 0, locals := 193 } s m args below meth c (MQ below (zQ D cA base h hE (some (.int rE))) args s 0 0 (zA base)) 6 D cA base h 0 [(0, .ref (base + r0))] [] h
  refine g_aload_n X 0 dX12_hardest_0 rfl ?_
  refine g_iconst X (v := 0) dX12_hardest_1 (by decide) ?_
  obtain ⟨hk1, hf⟩ := zite hf
  refine g_putI X zf12 hk1 0 (by decide) w_f_RX12_86 rfl rfl rfl dX12_hardest_2 ?_
  refine g_hp (fun h2 eh2 => ?_)
  have hf := zlet_n eh2 hf
  refine g_aload_n X 0 dX12_hardest_5 rfl ?_
  refine g_get X zf12 hk1 3 (by decide) w_f_RX12_329 rfl rfl dX12_hardest_6 ?_
  refine g_ifnonnull X 18 dX12_hardest_9 (by decide) (fun _ hq => ?_) (fun hq => ?_)
  · have hf := zpos (by rw [hq]; rfl) hf
    refine g_aload_n X 0 dX12_hardest_18 rfl ?_
    obtain ⟨r_3, hr_3, hf⟩ := zbd hf
    refine g_get X zf12 hk1 3 (by decide) w_f_RX12_329 rfl (zfv_r hr_3 rfl) dX12_hardest_19 ?_
    obtain ⟨hk4, hf⟩ := zite hf
    refine g_getN X zf11 hk4 5 (by decide) w_fn_RX12_259 rfl rfl dX12_hardest_22 ?_
    refine g_iconst X (v := 2) dX12_hardest_25 (by decide) ?_
    refine g_icmp_ge X 36 dX12_hardest_26 (by decide) (fun hq => ?_) (fun hq => ?_)
    · have hf := zpos hq hf
      refine g_iconst X (v := -1) dX12_hardest_36 (by decide) ?_
      refine g_istore_n X [(1, .int ((-1 : Int32))), (0, .ref (base + r0))] dX12_hardest_37 (by decide) rfl ?_
      refine g_iconst X (v := 0) dX12_hardest_38 (by decide) ?_
      refine g_istore_n X [(2, .int ((0 : Int32))), (1, .int ((-1 : Int32))), (0, .ref (base + r0))] dX12_hardest_39 (by decide) rfl ?_
      refine g_iconst X (v := 0) dX12_hardest_40 (by decide) ?_
      refine g_istore_n X [(3, .int ((0 : Int32))), (2, .int ((0 : Int32))), (1, .int ((-1 : Int32))), (0, .ref (base + r0))] dX12_hardest_41 (by decide) rfl ?_
      refine g_sub [3, 2, 1, 0] rfl ?_
      obtain ⟨qq, hlp, hf⟩ := zbd hf
      refine lp_snd (body := (fun q : Int32 × Int32 × Int32 × Zh => bX12_hardest_42 h r0 q.1 q.2.1 q.2.2.1 q.2.2.2)) (P := (fun q : Int32 × Int32 × Int32 × Zh => zG p l e { frames := 8, cells := 0, slots := 0, locals := 193 } s m args below meth c (MQ below (zQ D cA base h hE (some (.int rE))) args s 0 0 (zA base)) 6 D cA base h 42 [(0, .ref (base + r0)), (1, .int q.1), (2, .int q.2.1), (3, .int q.2.2.1)] [] q.2.2.2)) (E := (fun (en : Nat) (q : Int32 × Int32 × Int32 × Zh) => zG p l e { frames := 8, cells := 0, slots := 0, locals := 193 } s m args below meth c (MQ below (zQ D cA base h hE (some (.int rE))) args s 0 0 (zA base)) 6 D cA base h 117 [(0, .ref (base + r0)), (1, .int q.1)] [] q.2.2.2)) ?_ zB ((-1 : Int32), ((0 : Int32), ((0 : Int32), h2))) qq.1 qq.2 hlp ?_
      · intro q e_42 q_42 hf hc0 hc1
        obtain ⟨x1_42, x2_42, x3_42, h_42⟩ := q
        have hf : bX12_hardest_42 h r0 x1_42 x2_42 x3_42 h_42 = some (e_42, q_42) := hf
        unfold bX12_hardest_42 at hf
        show zG p l e { frames := 8, cells := 0, slots := 0, locals := 193 } s m args below meth c (MQ below (zQ D cA base h hE (some (.int rE))) args s 0 0 (zA base)) 6 D cA base h 42 [(0, .ref (base + r0)), (1, .int x1_42), (2, .int x2_42), (3, .int x3_42)] [] h_42
        refine g_iload_n X 3 dX12_hardest_42 rfl ?_
        refine g_aload_n X 0 dX12_hardest_43 rfl ?_
        obtain ⟨r_5, hr_5, hf⟩ := zbd hf
        refine g_get X zf12 hk1 3 (by decide) w_f_RX12_329 rfl (zfv_r hr_5 rfl) dX12_hardest_44 ?_
        obtain ⟨hk6, hf⟩ := zite hf
        refine g_getN X zf11 hk6 5 (by decide) w_fn_RX12_259 rfl rfl dX12_hardest_47 ?_
        refine g_icmp_ge X 117 dX12_hardest_50 (by decide) (fun hq => ?_) (fun hq => ?_)
        · have hf := zpos hq hf
          cases hf
          have hc1 := hc1 (by decide)
          exact g_sub [0, 1] rfl hc1
        · have hf := zneg hq hf
          refine g_iconst X (v := 0) dX12_hardest_53 (by decide) ?_
          refine g_istore X [(4, .int ((0 : Int32))), (0, .ref (base + r0)), (1, .int x1_42), (2, .int x2_42), (3, .int x3_42)] dX12_hardest_54 (by decide) rfl ?_
          refine g_sub [1, 2, 3, 4, 0] rfl ?_
          obtain ⟨qq, hlp, hf⟩ := zbd hf
          refine lp_snd (body := (fun q : Int32 × Int32 × Int32 × Zh => bX12_hardest_56 h r0 x3_42 q.1 q.2.1 q.2.2.1 q.2.2.2)) (P := (fun q : Int32 × Int32 × Int32 × Zh => zG p l e { frames := 8, cells := 0, slots := 0, locals := 193 } s m args below meth c (MQ below (zQ D cA base h hE (some (.int rE))) args s 0 0 (zA base)) 6 D cA base h 56 [(0, .ref (base + r0)), (1, .int q.1), (2, .int q.2.1), (3, .int x3_42), (4, .int q.2.2.1)] [] q.2.2.2)) (E := (fun (en : Nat) (q : Int32 × Int32 × Int32 × Zh) => zG p l e { frames := 8, cells := 0, slots := 0, locals := 193 } s m args below meth c (MQ below (zQ D cA base h hE (some (.int rE))) args s 0 0 (zA base)) 6 D cA base h 111 [(0, .ref (base + r0)), (1, .int q.1), (2, .int q.2.1), (3, .int x3_42)] [] q.2.2.2)) ?_ zB (x1_42, (x2_42, ((0 : Int32), h_42))) qq.1 qq.2 hlp ?_
          · intro q e_56 q_56 hf hc0 hc1
            obtain ⟨x1_56, x2_56, x4_56, h_56⟩ := q
            have hf : bX12_hardest_56 h r0 x3_42 x1_56 x2_56 x4_56 h_56 = some (e_56, q_56) := hf
            unfold bX12_hardest_56 at hf
            show zG p l e { frames := 8, cells := 0, slots := 0, locals := 193 } s m args below meth c (MQ below (zQ D cA base h hE (some (.int rE))) args s 0 0 (zA base)) 6 D cA base h 56 [(0, .ref (base + r0)), (1, .int x1_56), (2, .int x2_56), (3, .int x3_42), (4, .int x4_56)] [] h_56
            refine g_iload X 4 dX12_hardest_56 rfl ?_
            refine g_aload_n X 0 dX12_hardest_58 rfl ?_
            obtain ⟨r_7, hr_7, hf⟩ := zbd hf
            refine g_get X zf12 hk1 3 (by decide) w_f_RX12_329 rfl (zfv_r hr_7 rfl) dX12_hardest_59 ?_
            obtain ⟨hk8, hf⟩ := zite hf
            refine g_getN X zf11 hk8 5 (by decide) w_fn_RX12_259 rfl rfl dX12_hardest_62 ?_
            refine g_icmp_ge X 111 dX12_hardest_65 (by decide) (fun hq => ?_) (fun hq => ?_)
            · have hf := zpos hq hf
              cases hf
              have hc1 := hc1 (by decide)
              exact g_sub [0, 1, 2, 3] rfl hc1
            · have hf := zneg hq hf
              refine g_iload_n X 3 dX12_hardest_68 rfl ?_
              refine g_iload X 4 dX12_hardest_69 rfl ?_
              refine g_icmp_ne X 77 dX12_hardest_71 (by decide) (fun hq => ?_) (fun hq => ?_)
              · have hf := zneg hq hf
                refine g_aload_n X 0 dX12_hardest_77 rfl ?_
                refine g_iload_n X 3 dX12_hardest_78 rfl ?_
                refine g_iload X 4 dX12_hardest_79 rfl ?_
                obtain ⟨v10, h9, hch9, hf⟩ := zc2_e hf
                refine g_callV X 2 (sX12_apartNow hch9) zf12 hk1 ydX12_apartNow w_ml_RX12_510 w_instanceMethod_X12_apartNow w_sel_X12_apartNow w_ini_RX12 w_code_X12_apartNow (by decide) rfl (st := []) rfl rfl (Nat.le_of_ble_eq_true rfl) dX12_hardest_81 ?_
                refine g_istore X [(5, .int v10), (0, .ref (base + r0)), (1, .int x1_56), (2, .int x2_56), (3, .int x3_42), (4, .int x4_56)] dX12_hardest_84 (by decide) rfl ?_
                refine g_iload_n X 2 dX12_hardest_86 rfl ?_
                refine g_iconst X (v := -1) dX12_hardest_87 (by decide) ?_
                have hJ100 : ∀ (x4_100 : Int32) (x5_100 : Int32) (h_100 : Zh), jX12_hardest_100 h r0 x3_42 x4_100 x5_100 h_100 = some (e_56, q_56) → zG p l e { frames := 8, cells := 0, slots := 0, locals := 193 } s m args below meth c (MQ below (zQ D cA base h hE (some (.int rE))) args s 0 0 (zA base)) 6 D cA base h 100 [(0, .ref (base + r0)), (3, .int x3_42), (4, .int x4_100), (5, .int x5_100)] [] h_100 := by
                  intro x4_100 x5_100 h_100 hf
                  unfold jX12_hardest_100 at hf
                  refine g_iload_n X 1 dX12_hardest_100 rfl ?_
                  refine g_istore_n X [(1, .int x3_42), (0, .ref (base + r0)), (3, .int x3_42), (4, .int x4_100), (5, .int x5_100)] dX12_hardest_101 (by decide) rfl ?_
                  refine g_iload X 4 dX12_hardest_102 rfl ?_
                  refine g_istore_n X [(2, .int x5_100), (1, .int x3_42), (0, .ref (base + r0)), (3, .int x3_42), (4, .int x4_100), (5, .int x5_100)] dX12_hardest_104 (by decide) rfl ?_
                  obtain ⟨y11, ey11⟩ : ∃ y : Int32, y = x4_100 + (1 : Int32) := ⟨_, rfl⟩
                  have hf := zlet_n ey11 hf
                  refine g_iinc X (j := 4) [(4, .int y11), (2, .int x5_100), (1, .int x3_42), (0, .ref (base + r0)), (3, .int x3_42), (5, .int x5_100)] dX12_hardest_105 rfl (by rw [ey11]; rfl) (by decide) rfl ?_
                  refine g_goto X 56 dX12_hardest_108 (by decide) ?_
                  cases hf
                  exact g_sub [3, 2, 1, 4, 0] rfl (hc0 rfl)
                refine g_icmp_eq X 100 dX12_hardest_88 (by decide) (fun hq => ?_) (fun hq => ?_)
                · have hf := zpos hq hf
                  refine g_sub [1, 4, 5, 0] rfl ?_
                  exact hJ100 _ _ _ hf
                · have hf := zneg hq hf
                  refine g_iload X 0 dX12_hardest_91 rfl ?_
                  refine g_iload_n X 3 dX12_hardest_93 rfl ?_
                  refine g_icmp_lt X 100 dX12_hardest_94 (by decide) (fun hq => ?_) (fun hq => ?_)
                  · have hf := zpos hq hf
                    refine g_sub [1, 4, 5, 0] rfl ?_
                    exact hJ100 _ _ _ hf
                  · have hf := zneg hq hf
                    refine g_goto X 105 dX12_hardest_97 (by decide) ?_
                    obtain ⟨y12, ey12⟩ : ∃ y : Int32, y = x4_56 + (1 : Int32) := ⟨_, rfl⟩
                    have hf := zlet_n ey12 hf
                    refine g_iinc X (j := 5) [(4, .int y12), (5, .int v10), (0, .ref (base + r0)), (1, .int x1_56), (2, .int x2_56), (3, .int x3_42)] dX12_hardest_105 rfl (by rw [ey12]; rfl) (by decide) rfl ?_
                    refine g_goto X 56 dX12_hardest_108 (by decide) ?_
                    cases hf
                    exact g_sub [2, 3, 4, 5, 0] rfl (hc0 rfl)
              · have hf := zpos hq hf
                refine g_goto X 105 dX12_hardest_74 (by decide) ?_
                obtain ⟨y13, ey13⟩ : ∃ y : Int32, y = x4_56 + (1 : Int32) := ⟨_, rfl⟩
                have hf := zlet_n ey13 hf
                refine g_iinc X (j := 4) [(4, .int y13), (0, .ref (base + r0)), (1, .int x1_56), (2, .int x2_56), (3, .int x3_42)] dX12_hardest_105 rfl (by rw [ey13]; rfl) (by decide) rfl ?_
                refine g_goto X 56 dX12_hardest_108 (by decide) ?_
                cases hf
                exact g_sub [1, 2, 3, 4, 0] rfl (hc0 rfl)
          · obtain ⟨ee, x1_k56, x2_k56, x4_k56, h_k56⟩ := qq
            have hf : kX12_hardest_56 h r0 x3_42 ee x1_k56 x2_k56 x4_k56 h_k56 = some (e_42, q_42) := hf
            unfold kX12_hardest_56 at hf
            show zG p l e { frames := 8, cells := 0, slots := 0, locals := 193 } s m args below meth c (MQ below (zQ D cA base h hE (some (.int rE))) args s 0 0 (zA base)) 6 D cA base h 111 [(0, .ref (base + r0)), (1, .int x1_k56), (2, .int x2_k56), (3, .int x3_42)] [] h_k56
            obtain ⟨y14, ey14⟩ : ∃ y : Int32, y = x3_42 + (1 : Int32) := ⟨_, rfl⟩
            have hf := zlet_n ey14 hf
            refine g_iinc X (j := 3) [(3, .int y14), (0, .ref (base + r0)), (1, .int x1_k56), (2, .int x2_k56)] dX12_hardest_111 rfl (by rw [ey14]; rfl) (by decide) rfl ?_
            refine g_goto X 42 dX12_hardest_114 (by decide) ?_
            cases hf
            exact g_sub [1, 2, 3, 0] rfl (hc0 rfl)
      · obtain ⟨ee, x1_k42, x2_k42, x3_k42, h_k42⟩ := qq
        have hf : kX12_hardest_42 h r0 ee x1_k42 x2_k42 x3_k42 h_k42 = some (rE, hE) := hf
        unfold kX12_hardest_42 at hf
        show zG p l e { frames := 8, cells := 0, slots := 0, locals := 193 } s m args below meth c (MQ below (zQ D cA base h hE (some (.int rE))) args s 0 0 (zA base)) 6 D cA base h 117 [(0, .ref (base + r0)), (1, .int x1_k42)] [] h_k42
        refine g_aload_n X 0 dX12_hardest_117 rfl ?_
        refine g_iload_n X 1 dX12_hardest_118 rfl ?_
        obtain ⟨v16, h15, hch15, hf⟩ := zc2_e hf
        refine g_callV X 1 (sX12_good hch15) zf12 hk1 ydX12_good w_ml_RX12_96 w_instanceMethod_X12_good w_sel_X12_good w_ini_RX12 w_code_X12_good (by decide) rfl (st := []) rfl rfl (Nat.le_of_ble_eq_true rfl) dX12_hardest_119 ?_
        obtain ⟨rfl, rfl⟩ := zsm hf
        exact g_iret X hr dX12_hardest_122
    · have hf := zneg hq hf
      refine g_aload_n X 0 dX12_hardest_29 rfl ?_
      refine g_bipush X (v := 6) dX12_hardest_30 (by decide) ?_
      obtain ⟨v18, h17, hch17, hf⟩ := zc2_e hf
      refine g_callV X 1 (sX12_refused hch17) zf12 hk1 ydX12_refused w_ml_RX12_92 w_instanceMethod_X12_refused w_sel_X12_refused w_ini_RX12 w_code_X12_refused (by decide) rfl (st := []) rfl rfl (Nat.le_of_ble_eq_true rfl) dX12_hardest_32 ?_
      obtain ⟨rfl, rfl⟩ := zsm hf
      exact g_iret X hr dX12_hardest_35
  · have hf := zneg (by rw [hq]; decide) hf
    refine g_aload_n X 0 dX12_hardest_12 rfl ?_
    refine g_iconst X (v := 1) dX12_hardest_13 (by decide) ?_
    obtain ⟨v20, h19, hch19, hf⟩ := zc2_e hf
    refine g_callV X 1 (sX12_refused hch19) zf12 hk1 ydX12_refused w_ml_RX12_92 w_instanceMethod_X12_refused w_sel_X12_refused w_ini_RX12 w_code_X12_refused (by decide) rfl (st := []) rfl rfl (Nat.le_of_ble_eq_true rfl) dX12_hardest_14 ?_
    obtain ⟨rfl, rfl⟩ := zsm hf
    exact g_iret X hr dX12_hardest_17

set_option maxHeartbeats 4000000 in
set_option maxRecDepth 100000 in
theorem sX12_shows {l : Launch} {D : va_G} {cA : Nat → ClassId} {base : Nat} {sA : Nat → Nat} {r0 : Nat} {x1 : Int32} {x2 : Int32} {h hE : Zh} {rE : Int32} (hf : fX12_shows r0 x1 x2 h = some (rE, hE)) : zC l yX12_shows cX12_shows 4 (some .int) 7 169 D cA base sA [.ref (base + r0), .int x1, .int x2] h (some (.int rE)) hE := by
  refine g_entry RX12 (by decide) rfl (Nat.le_of_ble_eq_true rfl) ?_
  intro p e s m args below meth c X hr
  unfold fX12_shows at hf
  have hf := zlet_n (x := h) rfl hf
  show zG p l e { frames := 7, cells := 0, slots := 0, locals := 169 } s m args below meth c (MQ below (zQ D cA base h hE (some (.int rE))) args s 0 0 (zA base)) 4 D cA base h 0 [(0, .ref (base + r0)), (1, .int x1), (2, .int x2)] [] h
  refine g_aload_n X 0 dX12_shows_0 rfl ?_
  refine g_iconst X (v := 0) dX12_shows_1 (by decide) ?_
  obtain ⟨hk1, hf⟩ := zite hf
  refine g_putI X zf12 hk1 0 (by decide) w_f_RX12_86 rfl rfl rfl dX12_shows_2 ?_
  refine g_hp (fun h2 eh2 => ?_)
  have hf := zlet_n eh2 hf
  refine g_aload_n X 0 dX12_shows_5 rfl ?_
  refine g_iload_n X 1 dX12_shows_6 rfl ?_
  obtain ⟨v4, h3, hch3, hf⟩ := zc2_e hf
  refine g_callV X 1 (sX12_isRule hch3) zf12 hk1 ydX12_isRule w_ml_RX12_430 w_instanceMethod_X12_isRule w_sel_X12_isRule w_ini_RX12 w_code_X12_isRule (by decide) rfl (st := []) rfl rfl (Nat.le_of_ble_eq_true rfl) dX12_shows_7 ?_
  refine g_if_eq X 21 dX12_shows_10 (by decide) (fun hq => ?_) (fun hq => ?_)
  · have hf := zpos hq hf
    refine g_aload_n X 0 dX12_shows_21 rfl ?_
    refine g_iconst X (v := 1) dX12_shows_22 (by decide) ?_
    obtain ⟨v6, h5, hch5, hf⟩ := zc2_e hf
    refine g_callV X 1 (sX12_refused hch5) zf12 hk1 ydX12_refused w_ml_RX12_92 w_instanceMethod_X12_refused w_sel_X12_refused w_ini_RX12 w_code_X12_refused (by decide) rfl (st := []) rfl rfl (Nat.le_of_ble_eq_true rfl) dX12_shows_23 ?_
    obtain ⟨rfl, rfl⟩ := zsm hf
    exact g_iret X hr dX12_shows_26
  · have hf := zneg hq hf
    refine g_aload_n X 0 dX12_shows_13 rfl ?_
    refine g_iload_n X 2 dX12_shows_14 rfl ?_
    obtain ⟨v8, h7, hch7, hf⟩ := zc2_e hf
    refine g_callV X 1 (sX12_isHand hch7) zf12 hk1 ydX12_isHand w_ml_RX12_375 w_instanceMethod_X12_isHand w_sel_X12_isHand w_ini_RX12 w_code_X12_isHand (by decide) rfl (st := []) rfl rfl (Nat.le_of_ble_eq_true rfl) dX12_shows_15 ?_
    refine g_if_ne X 27 dX12_shows_18 (by decide) (fun hq => ?_) (fun hq => ?_)
    · have hf := zneg hq hf
      refine g_aload_n X 0 dX12_shows_27 rfl ?_
      refine g_iload_n X 1 dX12_shows_28 rfl ?_
      refine g_iload_n X 2 dX12_shows_29 rfl ?_
      obtain ⟨v10, h9, hch9, hf⟩ := zc2_e hf
      refine g_callV X 2 (sX12_laysNow hch9) zf12 hk1 ydX12_laysNow w_ml_RX12_433 w_instanceMethod_X12_laysNow w_sel_X12_laysNow w_ini_RX12 w_code_X12_laysNow (by decide) rfl (st := []) rfl rfl (Nat.le_of_ble_eq_true rfl) dX12_shows_30 ?_
      refine g_istore_n X [(3, .int v10), (0, .ref (base + r0)), (1, .int x1), (2, .int x2)] dX12_shows_33 (by decide) rfl ?_
      refine g_iload_n X 0 dX12_shows_34 rfl ?_
      refine g_bipush X (v := -2) dX12_shows_35 (by decide) ?_
      refine g_icmp_ne X 47 dX12_shows_37 (by decide) (fun hq => ?_) (fun hq => ?_)
      · have hf := zneg hq hf
        refine g_aload_n X 1 dX12_shows_47 rfl ?_
        refine g_get X zf12 hk1 43 (by decide) w_f_RX12_346 rfl rfl dX12_shows_48 ?_
        refine g_bipush X (v := 20) dX12_shows_51 (by decide) ?_
        refine g_icmp_ne X 62 dX12_shows_53 (by decide) (fun hq => ?_) (fun hq => ?_)
        · have hf := zneg hq hf
          refine g_aload_n X 1 dX12_shows_62 rfl ?_
          obtain ⟨r_11, hr_11, hf⟩ := zbd hf
          refine g_get X zf12 hk1 37 (by decide) w_f_RX12_68 rfl (zfv_r hr_11 rfl) dX12_shows_63 ?_
          refine g_aload_n X 1 dX12_shows_66 rfl ?_
          refine g_get X zf12 hk1 43 (by decide) w_f_RX12_346 rfl rfl dX12_shows_67 ?_
          refine g_iload_n X 3 dX12_shows_70 rfl ?_
          obtain ⟨hk12, hf⟩ := zite hf
          obtain ⟨hi13, hf⟩ := zite hf
          refine g_iast X hk12 hi13 dX12_shows_71 ?_
          refine g_hp (fun h14 eh14 => ?_)
          have hf := zlet_n eh14 hf
          refine g_aload_n X 1 dX12_shows_72 rfl ?_
          obtain ⟨r_15, hr_15, hf⟩ := zbd hf
          refine g_get X zf12 hk1 38 (by decide) w_f_RX12_71 rfl (zfv_r hr_15 rfl) dX12_shows_73 ?_
          refine g_aload_n X 1 dX12_shows_76 rfl ?_
          refine g_get X zf12 hk1 43 (by decide) w_f_RX12_346 rfl rfl dX12_shows_77 ?_
          refine g_iload_n X 0 dX12_shows_80 rfl ?_
          obtain ⟨hk16, hf⟩ := zite hf
          obtain ⟨hi17, hf⟩ := zite hf
          refine g_iast X hk16 hi17 dX12_shows_81 ?_
          refine g_hp (fun h18 eh18 => ?_)
          have hf := zlet_n eh18 hf
          refine g_aload_n X 1 dX12_shows_82 rfl ?_
          refine g_dup X dX12_shows_83 rfl ?_
          refine g_get X zf12 hk1 43 (by decide) w_f_RX12_346 rfl rfl dX12_shows_84 ?_
          refine g_iconst X (v := 1) dX12_shows_87 (by decide) ?_
          refine g_iadd X dX12_shows_88 ?_
          refine g_putI X zf12 hk1 43 (by decide) w_f_RX12_346 rfl rfl rfl dX12_shows_89 ?_
          refine g_hp (fun h19 eh19 => ?_)
          have hf := zlet_n eh19 hf
          refine g_aload_n X 1 dX12_shows_92 rfl ?_
          refine g_aload_n X 1 dX12_shows_93 rfl ?_
          refine g_get X zf12 hk1 43 (by decide) w_f_RX12_346 rfl rfl dX12_shows_94 ?_
          refine g_iconst X (v := 1) dX12_shows_97 (by decide) ?_
          refine g_isub X dX12_shows_98 ?_
          obtain ⟨v21, h20, hch20, hf⟩ := zc2_e hf
          refine g_callV X 1 (sX12_good hch20) zf12 hk1 ydX12_good w_ml_RX12_96 w_instanceMethod_X12_good w_sel_X12_good w_ini_RX12 w_code_X12_good (by decide) rfl (st := []) rfl rfl (Nat.le_of_ble_eq_true rfl) dX12_shows_99 ?_
          obtain ⟨rfl, rfl⟩ := zsm hf
          exact g_iret X hr dX12_shows_102
        · have hf := zpos hq hf
          refine g_aload_n X 1 dX12_shows_56 rfl ?_
          refine g_iconst X (v := 3) dX12_shows_57 (by decide) ?_
          obtain ⟨v23, h22, hch22, hf⟩ := zc2_e hf
          refine g_callV X 1 (sX12_refused hch22) zf12 hk1 ydX12_refused w_ml_RX12_92 w_instanceMethod_X12_refused w_sel_X12_refused w_ini_RX12 w_code_X12_refused (by decide) rfl (st := []) rfl rfl (Nat.le_of_ble_eq_true rfl) dX12_shows_58 ?_
          obtain ⟨rfl, rfl⟩ := zsm hf
          exact g_iret X hr dX12_shows_61
      · have hf := zpos hq hf
        refine g_aload_n X 1 dX12_shows_40 rfl ?_
        refine g_bipush X (v := 6) dX12_shows_41 (by decide) ?_
        obtain ⟨v25, h24, hch24, hf⟩ := zc2_e hf
        refine g_callV X 1 (sX12_refused hch24) zf12 hk1 ydX12_refused w_ml_RX12_92 w_instanceMethod_X12_refused w_sel_X12_refused w_ini_RX12 w_code_X12_refused (by decide) rfl (st := []) rfl rfl (Nat.le_of_ble_eq_true rfl) dX12_shows_43 ?_
        obtain ⟨rfl, rfl⟩ := zsm hf
        exact g_iret X hr dX12_shows_46
    · have hf := zpos hq hf
      refine g_aload_n X 0 dX12_shows_21 rfl ?_
      refine g_iconst X (v := 1) dX12_shows_22 (by decide) ?_
      obtain ⟨v27, h26, hch26, hf⟩ := zc2_e hf
      refine g_callV X 1 (sX12_refused hch26) zf12 hk1 ydX12_refused w_ml_RX12_92 w_instanceMethod_X12_refused w_sel_X12_refused w_ini_RX12 w_code_X12_refused (by decide) rfl (st := []) rfl rfl (Nat.le_of_ble_eq_true rfl) dX12_shows_23 ?_
      obtain ⟨rfl, rfl⟩ := zsm hf
      exact g_iret X hr dX12_shows_26

set_option maxHeartbeats 4000000 in
set_option maxRecDepth 100000 in
theorem sX12_seed {l : Launch} {D : va_G} {cA : Nat → ClassId} {base : Nat} {sA : Nat → Nat} {r0 : Nat} {x1 : Int32} {h hE : Zh} {rE : Int32} (hf : fX12_seed r0 x1 h = some (rE, hE)) : zC l yX12_seed cX12_seed 2 (some .boolean) 2 42 D cA base sA [.ref (base + r0), .int x1] h (some (.int rE)) hE := by
  refine g_entry RX12 (by decide) rfl (Nat.le_of_ble_eq_true rfl) ?_
  intro p e s m args below meth c X hr
  unfold fX12_seed at hf
  have hf := zlet_n (x := h) rfl hf
  show zG p l e { frames := 2, cells := 0, slots := 0, locals := 42 } s m args below meth c (MQ below (zQ D cA base h hE (some (.int rE))) args s 0 0 (zA base)) 2 D cA base h 0 [(0, .ref (base + r0)), (1, .int x1)] [] h
  refine g_aload_n X 0 dX12_seed_0 rfl ?_
  refine g_iconst X (v := 0) dX12_seed_1 (by decide) ?_
  obtain ⟨hk1, hf⟩ := zite hf
  refine g_putI X zf12 hk1 0 (by decide) w_f_RX12_86 rfl rfl rfl dX12_seed_2 ?_
  refine g_hp (fun h2 eh2 => ?_)
  have hf := zlet_n eh2 hf
  refine g_aload_n X 0 dX12_seed_5 rfl ?_
  refine g_get X zf12 hk1 3 (by decide) w_f_RX12_329 rfl rfl dX12_seed_6 ?_
  refine g_ifnonnull X 18 dX12_seed_9 (by decide) (fun _ hq => ?_) (fun hq => ?_)
  · have hf := zpos (by rw [hq]; rfl) hf
    refine g_iload_n X 1 dX12_seed_18 rfl ?_
    refine g_iconst X (v := 0) dX12_seed_19 (by decide) ?_
    refine g_ldcw X w_c_RX12_519 dX12_seed_20 ?_
    obtain ⟨v4, h3, hch3, hf⟩ := zc2_e hf
    refine g_callS X 3 (sX12_in hch3) ysX12_in w_ml_RX12_168 w_static_X12_in w_ini_RX12 w_code_X12_in (by decide) rfl (st := []) rfl rfl (Nat.le_of_ble_eq_true rfl) dX12_seed_23 ?_
    refine g_if_ne X 35 dX12_seed_26 (by decide) (fun hq => ?_) (fun hq => ?_)
    · have hf := zneg hq hf
      refine g_aload_n X 0 dX12_seed_35 rfl ?_
      refine g_iload_n X 1 dX12_seed_36 rfl ?_
      refine g_putI X zf12 hk1 45 (by decide) w_f_RX12_331 rfl rfl rfl dX12_seed_37 ?_
      refine g_hp (fun h5 eh5 => ?_)
      have hf := zlet_n eh5 hf
      refine g_aload_n X 0 dX12_seed_40 rfl ?_
      obtain ⟨v7, h6, hch6, hf⟩ := zc2_e hf
      refine g_callV X 0 (sX12_granted hch6) zf12 hk1 ydX12_granted w_ml_RX12_520 w_instanceMethod_X12_granted w_sel_X12_granted w_ini_RX12 w_code_X12_granted (by decide) rfl (st := []) rfl rfl (Nat.le_of_ble_eq_true rfl) dX12_seed_41 ?_
      obtain ⟨hb8, hf⟩ := zite hf
      obtain ⟨rfl, rfl⟩ := zsm hf
      exact g_zret X hb8 hr dX12_seed_44
    · have hf := zpos hq hf
      refine g_aload_n X 0 dX12_seed_29 rfl ?_
      refine g_iconst X (v := 2) dX12_seed_30 (by decide) ?_
      obtain ⟨v10, h9, hch9, hf⟩ := zc2_e hf
      refine g_callV X 1 (sX12_denied hch9) zf12 hk1 ydX12_denied w_ml_RX12_516 w_instanceMethod_X12_denied w_sel_X12_denied w_ini_RX12 w_code_X12_denied (by decide) rfl (st := []) rfl rfl (Nat.le_of_ble_eq_true rfl) dX12_seed_31 ?_
      obtain ⟨hb11, hf⟩ := zite hf
      obtain ⟨rfl, rfl⟩ := zsm hf
      exact g_zret X hb11 hr dX12_seed_34
  · have hf := zneg (by rw [hq]; decide) hf
    refine g_aload_n X 0 dX12_seed_12 rfl ?_
    refine g_iconst X (v := 1) dX12_seed_13 (by decide) ?_
    obtain ⟨v13, h12, hch12, hf⟩ := zc2_e hf
    refine g_callV X 1 (sX12_denied hch12) zf12 hk1 ydX12_denied w_ml_RX12_516 w_instanceMethod_X12_denied w_sel_X12_denied w_ini_RX12 w_code_X12_denied (by decide) rfl (st := []) rfl rfl (Nat.le_of_ble_eq_true rfl) dX12_seed_14 ?_
    obtain ⟨hb14, hf⟩ := zite hf
    obtain ⟨rfl, rfl⟩ := zsm hf
    exact g_zret X hb14 hr dX12_seed_17

set_option maxHeartbeats 4000000 in
set_option maxRecDepth 100000 in
theorem sX12_draw {l : Launch} {D : va_G} {cA : Nat → ClassId} {base : Nat} {sA : Nat → Nat} {r0 : Nat} {h hE : Zh} {rE : Int32} (hf : fX12_draw r0 h = some (rE, hE)) : zC l yX12_draw cX12_draw 1 (some .int) 1 21 D cA base sA [.ref (base + r0)] h (some (.int rE)) hE := by
  refine g_entry RX12 (by decide) rfl (Nat.le_of_ble_eq_true rfl) ?_
  intro p e s m args below meth c X hr
  unfold fX12_draw at hf
  have hf := zlet_n (x := h) rfl hf
  show zG p l e { frames := 1, cells := 0, slots := 0, locals := 21 } s m args below meth c (MQ below (zQ D cA base h hE (some (.int rE))) args s 0 0 (zA base)) 1 D cA base h 0 [(0, .ref (base + r0))] [] h
  refine g_aload_n X 0 dX12_draw_0 rfl ?_
  refine g_iconst X (v := 0) dX12_draw_1 (by decide) ?_
  obtain ⟨hk1, hf⟩ := zite hf
  refine g_putI X zf12 hk1 0 (by decide) w_f_RX12_86 rfl rfl rfl dX12_draw_2 ?_
  refine g_hp (fun h2 eh2 => ?_)
  have hf := zlet_n eh2 hf
  refine g_aload_n X 0 dX12_draw_5 rfl ?_
  refine g_get X zf12 hk1 3 (by decide) w_f_RX12_329 rfl rfl dX12_draw_6 ?_
  refine g_ifnonnull X 18 dX12_draw_9 (by decide) (fun _ hq => ?_) (fun hq => ?_)
  · have hf := zpos (by rw [hq]; rfl) hf
    refine g_aload_n X 0 dX12_draw_18 rfl ?_
    refine g_ldc2 X w_c_RX12_523 dX12_draw_19 ?_
    refine g_aload_n X 0 dX12_draw_22 rfl ?_
    refine g_get X zf12 hk1 45 (by decide) w_f_RX12_331 rfl rfl dX12_draw_23 ?_
    refine g_i2l X dX12_draw_26 ?_
    refine g_lmul X dX12_draw_27 ?_
    refine g_ldc2 X w_c_RX12_525 dX12_draw_28 ?_
    refine g_ladd X dX12_draw_31 ?_
    refine g_ldc2 X w_c_RX12_527 dX12_draw_32 ?_
    obtain ⟨hn3, hf⟩ := zite hf
    refine g_lrem X hn3 dX12_draw_35 ?_
    refine g_l2i X dX12_draw_36 ?_
    refine g_putI X zf12 hk1 45 (by decide) w_f_RX12_331 rfl rfl rfl dX12_draw_37 ?_
    refine g_hp (fun h4 eh4 => ?_)
    have hf := zlet_n eh4 hf
    refine g_aload_n X 0 dX12_draw_40 rfl ?_
    refine g_aload_n X 0 dX12_draw_41 rfl ?_
    refine g_get X zf12 hk1 45 (by decide) w_f_RX12_331 rfl rfl dX12_draw_42 ?_
    refine g_aload_n X 0 dX12_draw_45 rfl ?_
    refine g_get X zf12 hk1 17 (by decide) w_f_RX12_356 rfl rfl dX12_draw_46 ?_
    obtain ⟨hn5, hf⟩ := zite hf
    refine g_irem X hn5 dX12_draw_49 ?_
    obtain ⟨v7, h6, hch6, hf⟩ := zc2_e hf
    refine g_callV X 1 (sX12_good hch6) zf12 hk1 ydX12_good w_ml_RX12_96 w_instanceMethod_X12_good w_sel_X12_good w_ini_RX12 w_code_X12_good (by decide) rfl (st := []) rfl rfl (Nat.le_of_ble_eq_true rfl) dX12_draw_50 ?_
    obtain ⟨rfl, rfl⟩ := zsm hf
    exact g_iret X hr dX12_draw_53
  · have hf := zneg (by rw [hq]; decide) hf
    refine g_aload_n X 0 dX12_draw_12 rfl ?_
    refine g_iconst X (v := 1) dX12_draw_13 (by decide) ?_
    obtain ⟨v9, h8, hch8, hf⟩ := zc2_e hf
    refine g_callV X 1 (sX12_refused hch8) zf12 hk1 ydX12_refused w_ml_RX12_92 w_instanceMethod_X12_refused w_sel_X12_refused w_ini_RX12 w_code_X12_refused (by decide) rfl (st := []) rfl rfl (Nat.le_of_ble_eq_true rfl) dX12_draw_14 ?_
    obtain ⟨rfl, rfl⟩ := zsm hf
    exact g_iret X hr dX12_draw_17

set_option maxHeartbeats 4000000 in
set_option maxRecDepth 100000 in
theorem sX12_strike {l : Launch} {D : va_G} {cA : Nat → ClassId} {base : Nat} {sA : Nat → Nat} {r0 : Nat} {h hE : Zh} {rE : Int32} (hf : fX12_strike r0 h = some (rE, hE)) : zC l yX12_strike cX12_strike 1 (some .boolean) 2 42 D cA base sA [.ref (base + r0)] h (some (.int rE)) hE := by
  refine g_entry RX12 (by decide) rfl (Nat.le_of_ble_eq_true rfl) ?_
  intro p e s m args below meth c X hr
  unfold fX12_strike at hf
  have hf := zlet_n (x := h) rfl hf
  show zG p l e { frames := 2, cells := 0, slots := 0, locals := 42 } s m args below meth c (MQ below (zQ D cA base h hE (some (.int rE))) args s 0 0 (zA base)) 1 D cA base h 0 [(0, .ref (base + r0))] [] h
  refine g_aload_n X 0 dX12_strike_0 rfl ?_
  refine g_iconst X (v := 0) dX12_strike_1 (by decide) ?_
  obtain ⟨hk1, hf⟩ := zite hf
  refine g_putI X zf12 hk1 0 (by decide) w_f_RX12_86 rfl rfl rfl dX12_strike_2 ?_
  refine g_hp (fun h2 eh2 => ?_)
  have hf := zlet_n eh2 hf
  refine g_aload_n X 0 dX12_strike_5 rfl ?_
  refine g_get X zf12 hk1 3 (by decide) w_f_RX12_329 rfl rfl dX12_strike_6 ?_
  refine g_ifnull X 19 dX12_strike_9 (by decide) (fun hq => ?_) (fun _ hq => ?_)
  · have hf := zneg (by rw [hq]; decide) hf
    refine g_aload_n X 0 dX12_strike_19 rfl ?_
    refine g_bipush X (v := 6) dX12_strike_20 (by decide) ?_
    obtain ⟨v4, h3, hch3, hf⟩ := zc2_e hf
    refine g_callV X 1 (sX12_denied hch3) zf12 hk1 ydX12_denied w_ml_RX12_516 w_instanceMethod_X12_denied w_sel_X12_denied w_ini_RX12 w_code_X12_denied (by decide) rfl (st := []) rfl rfl (Nat.le_of_ble_eq_true rfl) dX12_strike_22 ?_
    obtain ⟨hb5, hf⟩ := zite hf
    obtain ⟨rfl, rfl⟩ := zsm hf
    exact g_zret X hb5 hr dX12_strike_25
  · have hf := zpos (by rw [hq]; rfl) hf
    refine g_aload_n X 0 dX12_strike_12 rfl ?_
    refine g_get X zf12 hk1 43 (by decide) w_f_RX12_346 rfl rfl dX12_strike_13 ?_
    refine g_if_ne X 26 dX12_strike_16 (by decide) (fun hq => ?_) (fun hq => ?_)
    · have hf := zneg hq hf
      refine g_aload_n X 0 dX12_strike_26 rfl ?_
      refine g_dup X dX12_strike_27 rfl ?_
      refine g_get X zf12 hk1 43 (by decide) w_f_RX12_346 rfl rfl dX12_strike_28 ?_
      refine g_iconst X (v := 1) dX12_strike_31 (by decide) ?_
      refine g_isub X dX12_strike_32 ?_
      refine g_putI X zf12 hk1 43 (by decide) w_f_RX12_346 rfl rfl rfl dX12_strike_33 ?_
      refine g_hp (fun h6 eh6 => ?_)
      have hf := zlet_n eh6 hf
      refine g_aload_n X 0 dX12_strike_36 rfl ?_
      obtain ⟨v8, h7, hch7, hf⟩ := zc2_e hf
      refine g_callV X 0 (sX12_granted hch7) zf12 hk1 ydX12_granted w_ml_RX12_520 w_instanceMethod_X12_granted w_sel_X12_granted w_ini_RX12 w_code_X12_granted (by decide) rfl (st := []) rfl rfl (Nat.le_of_ble_eq_true rfl) dX12_strike_37 ?_
      obtain ⟨hb9, hf⟩ := zite hf
      obtain ⟨rfl, rfl⟩ := zsm hf
      exact g_zret X hb9 hr dX12_strike_40
    · have hf := zpos hq hf
      refine g_aload_n X 0 dX12_strike_19 rfl ?_
      refine g_bipush X (v := 6) dX12_strike_20 (by decide) ?_
      obtain ⟨v11, h10, hch10, hf⟩ := zc2_e hf
      refine g_callV X 1 (sX12_denied hch10) zf12 hk1 ydX12_denied w_ml_RX12_516 w_instanceMethod_X12_denied w_sel_X12_denied w_ini_RX12 w_code_X12_denied (by decide) rfl (st := []) rfl rfl (Nat.le_of_ble_eq_true rfl) dX12_strike_22 ?_
      obtain ⟨hb12, hf⟩ := zite hf
      obtain ⟨rfl, rfl⟩ := zsm hf
      exact g_zret X hb12 hr dX12_strike_25

set_option maxHeartbeats 4000000 in
set_option maxRecDepth 100000 in
theorem sX12_image {l : Launch} {D : va_G} {cA : Nat → ClassId} {base : Nat} {sA : Nat → Nat} {r0 : Nat} {h hE : Zh} {rE : Int32} (hf : fX12_image r0 h = some (rE, hE)) : zC l yX12_image cX12_image 2 (some .int) 1 21 D cA base sA [.ref (base + r0)] h (some (.int rE)) hE := by
  refine g_entry RX12 (by decide) rfl (Nat.le_of_ble_eq_true rfl) ?_
  intro p e s m args below meth c X hr
  unfold fX12_image at hf
  have hf := zlet_n (x := h) rfl hf
  show zG p l e { frames := 1, cells := 0, slots := 0, locals := 21 } s m args below meth c (MQ below (zQ D cA base h hE (some (.int rE))) args s 0 0 (zA base)) 2 D cA base h 0 [(0, .ref (base + r0))] [] h
  refine g_aload_n X 0 dX12_image_0 rfl ?_
  refine g_iconst X (v := 0) dX12_image_1 (by decide) ?_
  obtain ⟨hk1, hf⟩ := zite hf
  refine g_putI X zf12 hk1 0 (by decide) w_f_RX12_86 rfl rfl rfl dX12_image_2 ?_
  refine g_hp (fun h2 eh2 => ?_)
  have hf := zlet_n eh2 hf
  refine g_aload_n X 0 dX12_image_5 rfl ?_
  refine g_get X zf12 hk1 3 (by decide) w_f_RX12_329 rfl rfl dX12_image_6 ?_
  refine g_ifnonnull X 18 dX12_image_9 (by decide) (fun _ hq => ?_) (fun hq => ?_)
  · have hf := zpos (by rw [hq]; rfl) hf
    refine g_aload_n X 0 dX12_image_18 rfl ?_
    refine g_get X zf12 hk1 44 (by decide) w_f_RX12_334 rfl rfl dX12_image_19 ?_
    refine g_iconst X (v := 3) dX12_image_22 (by decide) ?_
    refine g_icmp_ne X 32 dX12_image_23 (by decide) (fun hq => ?_) (fun hq => ?_)
    · have hf := zneg hq hf
      refine g_iconst X (v := 0) dX12_image_32 (by decide) ?_
      refine g_istore_n X [(1, .int ((0 : Int32))), (0, .ref (base + r0))] dX12_image_33 (by decide) rfl ?_
      refine g_sub [1, 0] rfl ?_
      obtain ⟨qq, hlp, hf⟩ := zbd hf
      refine lp_snd (body := (fun q : Int32 × Zh => bX12_image_34 h r0 q.1 q.2)) (P := (fun q : Int32 × Zh => zG p l e { frames := 1, cells := 0, slots := 0, locals := 21 } s m args below meth c (MQ below (zQ D cA base h hE (some (.int rE))) args s 0 0 (zA base)) 2 D cA base h 34 [(0, .ref (base + r0)), (1, .int q.1)] [] q.2)) (E := (fun (en : Nat) (q : Int32 × Zh) => zG p l e { frames := 1, cells := 0, slots := 0, locals := 21 } s m args below meth c (MQ below (zQ D cA base h hE (some (.int rE))) args s 0 0 (zA base)) 2 D cA base h 88 [(0, .ref (base + r0))] [] q.2)) ?_ zB ((0 : Int32), h2) qq.1 qq.2 hlp ?_
      · intro q e_34 q_34 hf hc0 hc1
        obtain ⟨x1_34, h_34⟩ := q
        have hf : bX12_image_34 h r0 x1_34 h_34 = some (e_34, q_34) := hf
        unfold bX12_image_34 at hf
        show zG p l e { frames := 1, cells := 0, slots := 0, locals := 21 } s m args below meth c (MQ below (zQ D cA base h hE (some (.int rE))) args s 0 0 (zA base)) 2 D cA base h 34 [(0, .ref (base + r0)), (1, .int x1_34)] [] h_34
        refine g_iload_n X 1 dX12_image_34 rfl ?_
        refine g_aload_n X 0 dX12_image_35 rfl ?_
        refine g_get X zf12 hk1 43 (by decide) w_f_RX12_346 rfl rfl dX12_image_36 ?_
        refine g_icmp_ge X 88 dX12_image_39 (by decide) (fun hq => ?_) (fun hq => ?_)
        · have hf := zpos hq hf
          cases hf
          have hc1 := hc1 (by decide)
          exact g_sub [0] rfl hc1
        · have hf := zneg hq hf
          refine g_aload_n X 0 dX12_image_42 rfl ?_
          obtain ⟨r_3, hr_3, hf⟩ := zbd hf
          refine g_get X zf12 hk1 39 (by decide) w_f_RX12_74 rfl (zfv_r hr_3 rfl) dX12_image_43 ?_
          refine g_bipush X (v := 20) dX12_image_46 (by decide) ?_
          refine g_aload_n X 0 dX12_image_48 rfl ?_
          refine g_get X zf12 hk1 44 (by decide) w_f_RX12_334 rfl rfl dX12_image_49 ?_
          refine g_imul X dX12_image_52 ?_
          refine g_iload_n X 1 dX12_image_53 rfl ?_
          refine g_iadd X dX12_image_54 ?_
          refine g_aload_n X 0 dX12_image_55 rfl ?_
          obtain ⟨r_4, hr_4, hf⟩ := zbd hf
          refine g_get X zf12 hk1 37 (by decide) w_f_RX12_68 rfl (zfv_r hr_4 rfl) dX12_image_56 ?_
          refine g_iload_n X 1 dX12_image_59 rfl ?_
          obtain ⟨hk5, hf⟩ := zite hf
          obtain ⟨hi6, hf⟩ := zite hf
          refine g_iald X hk5 hi6 dX12_image_60 ?_
          obtain ⟨hk7, hf⟩ := zite hf
          obtain ⟨hi8, hf⟩ := zite hf
          refine g_iast X hk7 hi8 dX12_image_61 ?_
          refine g_hp (fun h9 eh9 => ?_)
          have hf := zlet_n eh9 hf
          refine g_aload_n X 0 dX12_image_62 rfl ?_
          obtain ⟨r_10, hr_10, hf⟩ := zbd hf
          refine g_get X zf12 hk1 40 (by decide) w_f_RX12_77 rfl (zfv_r hr_10 rfl) dX12_image_63 ?_
          refine g_bipush X (v := 20) dX12_image_66 (by decide) ?_
          refine g_aload_n X 0 dX12_image_68 rfl ?_
          refine g_get X zf12 hk1 44 (by decide) w_f_RX12_334 rfl rfl dX12_image_69 ?_
          refine g_imul X dX12_image_72 ?_
          refine g_iload_n X 1 dX12_image_73 rfl ?_
          refine g_iadd X dX12_image_74 ?_
          refine g_aload_n X 0 dX12_image_75 rfl ?_
          obtain ⟨r_11, hr_11, hf⟩ := zbd hf
          refine g_get X zf12 hk1 38 (by decide) w_f_RX12_71 rfl (zfv_r hr_11 rfl) dX12_image_76 ?_
          refine g_iload_n X 1 dX12_image_79 rfl ?_
          obtain ⟨hk12, hf⟩ := zite hf
          obtain ⟨hi13, hf⟩ := zite hf
          refine g_iald X hk12 hi13 dX12_image_80 ?_
          obtain ⟨hk14, hf⟩ := zite hf
          obtain ⟨hi15, hf⟩ := zite hf
          refine g_iast X hk14 hi15 dX12_image_81 ?_
          refine g_hp (fun h16 eh16 => ?_)
          have hf := zlet_n eh16 hf
          obtain ⟨y17, ey17⟩ : ∃ y : Int32, y = x1_34 + (1 : Int32) := ⟨_, rfl⟩
          have hf := zlet_n ey17 hf
          refine g_iinc X (j := 1) [(1, .int y17), (0, .ref (base + r0))] dX12_image_82 rfl (by rw [ey17]; rfl) (by decide) rfl ?_
          refine g_goto X 34 dX12_image_85 (by decide) ?_
          cases hf
          exact g_sub [1, 0] rfl (hc0 rfl)
      · obtain ⟨ee, x1_k34, h_k34⟩ := qq
        have hf : kX12_image_34 h r0 ee x1_k34 h_k34 = some (rE, hE) := hf
        unfold kX12_image_34 at hf
        show zG p l e { frames := 1, cells := 0, slots := 0, locals := 21 } s m args below meth c (MQ below (zQ D cA base h hE (some (.int rE))) args s 0 0 (zA base)) 2 D cA base h 88 [(0, .ref (base + r0))] [] h_k34
        refine g_aload_n X 0 dX12_image_88 rfl ?_
        obtain ⟨r_18, hr_18, hf⟩ := zbd hf
        refine g_get X zf12 hk1 41 (by decide) w_f_RX12_80 rfl (zfv_r hr_18 rfl) dX12_image_89 ?_
        refine g_aload_n X 0 dX12_image_92 rfl ?_
        refine g_get X zf12 hk1 44 (by decide) w_f_RX12_334 rfl rfl dX12_image_93 ?_
        refine g_aload_n X 0 dX12_image_96 rfl ?_
        refine g_get X zf12 hk1 43 (by decide) w_f_RX12_346 rfl rfl dX12_image_97 ?_
        obtain ⟨hk19, hf⟩ := zite hf
        obtain ⟨hi20, hf⟩ := zite hf
        refine g_iast X hk19 hi20 dX12_image_100 ?_
        refine g_hp (fun h21 eh21 => ?_)
        have hf := zlet_n eh21 hf
        refine g_aload_n X 0 dX12_image_101 rfl ?_
        obtain ⟨r_22, hr_22, hf⟩ := zbd hf
        refine g_get X zf12 hk1 42 (by decide) w_f_RX12_83 rfl (zfv_r hr_22 rfl) dX12_image_102 ?_
        refine g_aload_n X 0 dX12_image_105 rfl ?_
        refine g_get X zf12 hk1 44 (by decide) w_f_RX12_334 rfl rfl dX12_image_106 ?_
        refine g_aload_n X 0 dX12_image_109 rfl ?_
        refine g_get X zf12 hk1 45 (by decide) w_f_RX12_331 rfl rfl dX12_image_110 ?_
        obtain ⟨hk23, hf⟩ := zite hf
        obtain ⟨hi24, hf⟩ := zite hf
        refine g_iast X hk23 hi24 dX12_image_113 ?_
        refine g_hp (fun h25 eh25 => ?_)
        have hf := zlet_n eh25 hf
        refine g_aload_n X 0 dX12_image_114 rfl ?_
        refine g_dup X dX12_image_115 rfl ?_
        refine g_get X zf12 hk1 44 (by decide) w_f_RX12_334 rfl rfl dX12_image_116 ?_
        refine g_iconst X (v := 1) dX12_image_119 (by decide) ?_
        refine g_iadd X dX12_image_120 ?_
        refine g_putI X zf12 hk1 44 (by decide) w_f_RX12_334 rfl rfl rfl dX12_image_121 ?_
        refine g_hp (fun h26 eh26 => ?_)
        have hf := zlet_n eh26 hf
        refine g_aload_n X 0 dX12_image_124 rfl ?_
        refine g_aload_n X 0 dX12_image_125 rfl ?_
        refine g_get X zf12 hk1 44 (by decide) w_f_RX12_334 rfl rfl dX12_image_126 ?_
        refine g_iconst X (v := 1) dX12_image_129 (by decide) ?_
        refine g_isub X dX12_image_130 ?_
        obtain ⟨v28, h27, hch27, hf⟩ := zc2_e hf
        refine g_callV X 1 (sX12_good hch27) zf12 hk1 ydX12_good w_ml_RX12_96 w_instanceMethod_X12_good w_sel_X12_good w_ini_RX12 w_code_X12_good (by decide) rfl (st := []) rfl rfl (Nat.le_of_ble_eq_true rfl) dX12_image_131 ?_
        obtain ⟨rfl, rfl⟩ := zsm hf
        exact g_iret X hr dX12_image_134
    · have hf := zpos hq hf
      refine g_aload_n X 0 dX12_image_26 rfl ?_
      refine g_iconst X (v := 3) dX12_image_27 (by decide) ?_
      obtain ⟨v30, h29, hch29, hf⟩ := zc2_e hf
      refine g_callV X 1 (sX12_refused hch29) zf12 hk1 ydX12_refused w_ml_RX12_92 w_instanceMethod_X12_refused w_sel_X12_refused w_ini_RX12 w_code_X12_refused (by decide) rfl (st := []) rfl rfl (Nat.le_of_ble_eq_true rfl) dX12_image_28 ?_
      obtain ⟨rfl, rfl⟩ := zsm hf
      exact g_iret X hr dX12_image_31
  · have hf := zneg (by rw [hq]; decide) hf
    refine g_aload_n X 0 dX12_image_12 rfl ?_
    refine g_iconst X (v := 1) dX12_image_13 (by decide) ?_
    obtain ⟨v32, h31, hch31, hf⟩ := zc2_e hf
    refine g_callV X 1 (sX12_refused hch31) zf12 hk1 ydX12_refused w_ml_RX12_92 w_instanceMethod_X12_refused w_sel_X12_refused w_ini_RX12 w_code_X12_refused (by decide) rfl (st := []) rfl rfl (Nat.le_of_ble_eq_true rfl) dX12_image_14 ?_
    obtain ⟨rfl, rfl⟩ := zsm hf
    exact g_iret X hr dX12_image_17

set_option maxHeartbeats 4000000 in
set_option maxRecDepth 100000 in
theorem sX12_back {l : Launch} {D : va_G} {cA : Nat → ClassId} {base : Nat} {sA : Nat → Nat} {r0 : Nat} {x1 : Int32} {h hE : Zh} {rE : Int32} (hf : fX12_back r0 x1 h = some (rE, hE)) : zC l yX12_back cX12_back 3 (some .boolean) 2 42 D cA base sA [.ref (base + r0), .int x1] h (some (.int rE)) hE := by
  refine g_entry RX12 (by decide) rfl (Nat.le_of_ble_eq_true rfl) ?_
  intro p e s m args below meth c X hr
  unfold fX12_back at hf
  have hf := zlet_n (x := h) rfl hf
  show zG p l e { frames := 2, cells := 0, slots := 0, locals := 42 } s m args below meth c (MQ below (zQ D cA base h hE (some (.int rE))) args s 0 0 (zA base)) 3 D cA base h 0 [(0, .ref (base + r0)), (1, .int x1)] [] h
  refine g_aload_n X 0 dX12_back_0 rfl ?_
  refine g_iconst X (v := 0) dX12_back_1 (by decide) ?_
  obtain ⟨hk1, hf⟩ := zite hf
  refine g_putI X zf12 hk1 0 (by decide) w_f_RX12_86 rfl rfl rfl dX12_back_2 ?_
  refine g_hp (fun h2 eh2 => ?_)
  have hf := zlet_n eh2 hf
  refine g_aload_n X 0 dX12_back_5 rfl ?_
  refine g_get X zf12 hk1 3 (by decide) w_f_RX12_329 rfl rfl dX12_back_6 ?_
  refine g_ifnull X 24 dX12_back_9 (by decide) (fun hq => ?_) (fun _ hq => ?_)
  · have hf := zneg (by rw [hq]; decide) hf
    refine g_aload_n X 0 dX12_back_24 rfl ?_
    refine g_iconst X (v := 1) dX12_back_25 (by decide) ?_
    obtain ⟨v4, h3, hch3, hf⟩ := zc2_e hf
    refine g_callV X 1 (sX12_denied hch3) zf12 hk1 ydX12_denied w_ml_RX12_516 w_instanceMethod_X12_denied w_sel_X12_denied w_ini_RX12 w_code_X12_denied (by decide) rfl (st := []) rfl rfl (Nat.le_of_ble_eq_true rfl) dX12_back_26 ?_
    obtain ⟨hb5, hf⟩ := zite hf
    obtain ⟨rfl, rfl⟩ := zsm hf
    exact g_zret X hb5 hr dX12_back_29
  · have hf := zpos (by rw [hq]; rfl) hf
    refine g_iload_n X 1 dX12_back_12 rfl ?_
    refine g_if_lt X 24 dX12_back_13 (by decide) (fun hq => ?_) (fun hq => ?_)
    · have hf := zpos hq hf
      refine g_aload_n X 0 dX12_back_24 rfl ?_
      refine g_iconst X (v := 1) dX12_back_25 (by decide) ?_
      obtain ⟨v7, h6, hch6, hf⟩ := zc2_e hf
      refine g_callV X 1 (sX12_denied hch6) zf12 hk1 ydX12_denied w_ml_RX12_516 w_instanceMethod_X12_denied w_sel_X12_denied w_ini_RX12 w_code_X12_denied (by decide) rfl (st := []) rfl rfl (Nat.le_of_ble_eq_true rfl) dX12_back_26 ?_
      obtain ⟨hb8, hf⟩ := zite hf
      obtain ⟨rfl, rfl⟩ := zsm hf
      exact g_zret X hb8 hr dX12_back_29
    · have hf := zneg hq hf
      refine g_iload_n X 1 dX12_back_16 rfl ?_
      refine g_aload_n X 0 dX12_back_17 rfl ?_
      refine g_get X zf12 hk1 44 (by decide) w_f_RX12_334 rfl rfl dX12_back_18 ?_
      refine g_icmp_lt X 30 dX12_back_21 (by decide) (fun hq => ?_) (fun hq => ?_)
      · have hf := zpos hq hf
        refine g_aload_n X 0 dX12_back_30 rfl ?_
        refine g_aload_n X 0 dX12_back_31 rfl ?_
        obtain ⟨r_9, hr_9, hf⟩ := zbd hf
        refine g_get X zf12 hk1 41 (by decide) w_f_RX12_80 rfl (zfv_r hr_9 rfl) dX12_back_32 ?_
        refine g_iload_n X 1 dX12_back_35 rfl ?_
        obtain ⟨hk10, hf⟩ := zite hf
        obtain ⟨hi11, hf⟩ := zite hf
        refine g_iald X hk10 hi11 dX12_back_36 ?_
        refine g_putI X zf12 hk1 43 (by decide) w_f_RX12_346 rfl rfl rfl dX12_back_37 ?_
        refine g_hp (fun h12 eh12 => ?_)
        have hf := zlet_n eh12 hf
        refine g_aload_n X 0 dX12_back_40 rfl ?_
        refine g_aload_n X 0 dX12_back_41 rfl ?_
        obtain ⟨r_13, hr_13, hf⟩ := zbd hf
        refine g_get X zf12 hk1 42 (by decide) w_f_RX12_83 rfl (zfv_r hr_13 rfl) dX12_back_42 ?_
        refine g_iload_n X 1 dX12_back_45 rfl ?_
        obtain ⟨hk14, hf⟩ := zite hf
        obtain ⟨hi15, hf⟩ := zite hf
        refine g_iald X hk14 hi15 dX12_back_46 ?_
        refine g_putI X zf12 hk1 45 (by decide) w_f_RX12_331 rfl rfl rfl dX12_back_47 ?_
        refine g_hp (fun h16 eh16 => ?_)
        have hf := zlet_n eh16 hf
        refine g_iconst X (v := 0) dX12_back_50 (by decide) ?_
        refine g_istore_n X [(2, .int ((0 : Int32))), (0, .ref (base + r0)), (1, .int x1)] dX12_back_51 (by decide) rfl ?_
        refine g_sub [1, 2, 0] rfl ?_
        obtain ⟨qq, hlp, hf⟩ := zbd hf
        refine lp_snd (body := (fun q : Int32 × Zh => bX12_back_52 h r0 x1 q.1 q.2)) (P := (fun q : Int32 × Zh => zG p l e { frames := 2, cells := 0, slots := 0, locals := 42 } s m args below meth c (MQ below (zQ D cA base h hE (some (.int rE))) args s 0 0 (zA base)) 3 D cA base h 52 [(0, .ref (base + r0)), (1, .int x1), (2, .int q.1)] [] q.2)) (E := (fun (en : Nat) (q : Int32 × Zh) => zG p l e { frames := 2, cells := 0, slots := 0, locals := 42 } s m args below meth c (MQ below (zQ D cA base h hE (some (.int rE))) args s 0 0 (zA base)) 3 D cA base h 100 [(0, .ref (base + r0))] [] q.2)) ?_ zB ((0 : Int32), h16) qq.1 qq.2 hlp ?_
        · intro q e_52 q_52 hf hc0 hc1
          obtain ⟨x2_52, h_52⟩ := q
          have hf : bX12_back_52 h r0 x1 x2_52 h_52 = some (e_52, q_52) := hf
          unfold bX12_back_52 at hf
          show zG p l e { frames := 2, cells := 0, slots := 0, locals := 42 } s m args below meth c (MQ below (zQ D cA base h hE (some (.int rE))) args s 0 0 (zA base)) 3 D cA base h 52 [(0, .ref (base + r0)), (1, .int x1), (2, .int x2_52)] [] h_52
          refine g_iload_n X 2 dX12_back_52 rfl ?_
          refine g_aload_n X 0 dX12_back_53 rfl ?_
          refine g_get X zf12 hk1 43 (by decide) w_f_RX12_346 rfl rfl dX12_back_54 ?_
          refine g_icmp_ge X 100 dX12_back_57 (by decide) (fun hq => ?_) (fun hq => ?_)
          · have hf := zpos hq hf
            cases hf
            have hc1 := hc1 (by decide)
            exact g_sub [0] rfl hc1
          · have hf := zneg hq hf
            refine g_aload_n X 0 dX12_back_60 rfl ?_
            obtain ⟨r_17, hr_17, hf⟩ := zbd hf
            refine g_get X zf12 hk1 37 (by decide) w_f_RX12_68 rfl (zfv_r hr_17 rfl) dX12_back_61 ?_
            refine g_iload_n X 2 dX12_back_64 rfl ?_
            refine g_aload_n X 0 dX12_back_65 rfl ?_
            obtain ⟨r_18, hr_18, hf⟩ := zbd hf
            refine g_get X zf12 hk1 39 (by decide) w_f_RX12_74 rfl (zfv_r hr_18 rfl) dX12_back_66 ?_
            refine g_bipush X (v := 20) dX12_back_69 (by decide) ?_
            refine g_iload_n X 1 dX12_back_71 rfl ?_
            refine g_imul X dX12_back_72 ?_
            refine g_iload_n X 2 dX12_back_73 rfl ?_
            refine g_iadd X dX12_back_74 ?_
            obtain ⟨hk19, hf⟩ := zite hf
            obtain ⟨hi20, hf⟩ := zite hf
            refine g_iald X hk19 hi20 dX12_back_75 ?_
            obtain ⟨hk21, hf⟩ := zite hf
            obtain ⟨hi22, hf⟩ := zite hf
            refine g_iast X hk21 hi22 dX12_back_76 ?_
            refine g_hp (fun h23 eh23 => ?_)
            have hf := zlet_n eh23 hf
            refine g_aload_n X 0 dX12_back_77 rfl ?_
            obtain ⟨r_24, hr_24, hf⟩ := zbd hf
            refine g_get X zf12 hk1 38 (by decide) w_f_RX12_71 rfl (zfv_r hr_24 rfl) dX12_back_78 ?_
            refine g_iload_n X 2 dX12_back_81 rfl ?_
            refine g_aload_n X 0 dX12_back_82 rfl ?_
            obtain ⟨r_25, hr_25, hf⟩ := zbd hf
            refine g_get X zf12 hk1 40 (by decide) w_f_RX12_77 rfl (zfv_r hr_25 rfl) dX12_back_83 ?_
            refine g_bipush X (v := 20) dX12_back_86 (by decide) ?_
            refine g_iload_n X 1 dX12_back_88 rfl ?_
            refine g_imul X dX12_back_89 ?_
            refine g_iload_n X 2 dX12_back_90 rfl ?_
            refine g_iadd X dX12_back_91 ?_
            obtain ⟨hk26, hf⟩ := zite hf
            obtain ⟨hi27, hf⟩ := zite hf
            refine g_iald X hk26 hi27 dX12_back_92 ?_
            obtain ⟨hk28, hf⟩ := zite hf
            obtain ⟨hi29, hf⟩ := zite hf
            refine g_iast X hk28 hi29 dX12_back_93 ?_
            refine g_hp (fun h30 eh30 => ?_)
            have hf := zlet_n eh30 hf
            obtain ⟨y31, ey31⟩ : ∃ y : Int32, y = x2_52 + (1 : Int32) := ⟨_, rfl⟩
            have hf := zlet_n ey31 hf
            refine g_iinc X (j := 2) [(2, .int y31), (0, .ref (base + r0)), (1, .int x1)] dX12_back_94 rfl (by rw [ey31]; rfl) (by decide) rfl ?_
            refine g_goto X 52 dX12_back_97 (by decide) ?_
            cases hf
            exact g_sub [1, 2, 0] rfl (hc0 rfl)
        · obtain ⟨ee, x2_k52, h_k52⟩ := qq
          have hf : kX12_back_52 h r0 ee x2_k52 h_k52 = some (rE, hE) := hf
          unfold kX12_back_52 at hf
          show zG p l e { frames := 2, cells := 0, slots := 0, locals := 42 } s m args below meth c (MQ below (zQ D cA base h hE (some (.int rE))) args s 0 0 (zA base)) 3 D cA base h 100 [(0, .ref (base + r0))] [] h_k52
          refine g_aload_n X 0 dX12_back_100 rfl ?_
          obtain ⟨v33, h32, hch32, hf⟩ := zc2_e hf
          refine g_callV X 0 (sX12_granted hch32) zf12 hk1 ydX12_granted w_ml_RX12_520 w_instanceMethod_X12_granted w_sel_X12_granted w_ini_RX12 w_code_X12_granted (by decide) rfl (st := []) rfl rfl (Nat.le_of_ble_eq_true rfl) dX12_back_101 ?_
          obtain ⟨hb34, hf⟩ := zite hf
          obtain ⟨rfl, rfl⟩ := zsm hf
          exact g_zret X hb34 hr dX12_back_104
      · have hf := zneg hq hf
        refine g_aload_n X 0 dX12_back_24 rfl ?_
        refine g_iconst X (v := 1) dX12_back_25 (by decide) ?_
        obtain ⟨v36, h35, hch35, hf⟩ := zc2_e hf
        refine g_callV X 1 (sX12_denied hch35) zf12 hk1 ydX12_denied w_ml_RX12_516 w_instanceMethod_X12_denied w_sel_X12_denied w_ini_RX12 w_code_X12_denied (by decide) rfl (st := []) rfl rfl (Nat.le_of_ble_eq_true rfl) dX12_back_26 ?_
        obtain ⟨hb37, hf⟩ := zite hf
        obtain ⟨rfl, rfl⟩ := zsm hf
        exact g_zret X hb37 hr dX12_back_29

set_option maxHeartbeats 4000000 in
set_option maxRecDepth 100000 in
theorem sX12_led {l : Launch} {D : va_G} {cA : Nat → ClassId} {base : Nat} {sA : Nat → Nat} {r0 : Nat} {x1 : Int32} {x2 : Int32} {h hE : Zh} {rE : Int32} (hf : fX12_led r0 x1 x2 h = some (rE, hE)) : zC l yX12_led cX12_led 5 (some .int) 7 169 D cA base sA [.ref (base + r0), .int x1, .int x2] h (some (.int rE)) hE := by
  refine g_entry RX12 (by decide) rfl (Nat.le_of_ble_eq_true rfl) ?_
  intro p e s m args below meth c X hr
  unfold fX12_led at hf
  have hf := zlet_n (x := h) rfl hf
  show zG p l e { frames := 7, cells := 0, slots := 0, locals := 169 } s m args below meth c (MQ below (zQ D cA base h hE (some (.int rE))) args s 0 0 (zA base)) 5 D cA base h 0 [(0, .ref (base + r0)), (1, .int x1), (2, .int x2)] [] h
  refine g_aload_n X 0 dX12_led_0 rfl ?_
  refine g_iconst X (v := 0) dX12_led_1 (by decide) ?_
  obtain ⟨hk1, hf⟩ := zite hf
  refine g_putI X zf12 hk1 0 (by decide) w_f_RX12_86 rfl rfl rfl dX12_led_2 ?_
  refine g_hp (fun h2 eh2 => ?_)
  have hf := zlet_n eh2 hf
  refine g_iconst X (v := 0) dX12_led_5 (by decide) ?_
  refine g_istore_n X [(3, .int ((0 : Int32))), (0, .ref (base + r0)), (1, .int x1), (2, .int x2)] dX12_led_6 (by decide) rfl ?_
  refine g_iconst X (v := 0) dX12_led_7 (by decide) ?_
  refine g_istore X [(4, .int ((0 : Int32))), (3, .int ((0 : Int32))), (0, .ref (base + r0)), (1, .int x1), (2, .int x2)] dX12_led_8 (by decide) rfl ?_
  refine g_sub [2, 3, 4, 1, 0] rfl ?_
  obtain ⟨qq, hlp, hf⟩ := zbd hf
  refine lp_snd (body := (fun q : Int32 × Int32 × Zh => bX12_led_10 h r0 x1 x2 q.1 q.2.1 q.2.2)) (P := (fun q : Int32 × Int32 × Zh => zG p l e { frames := 7, cells := 0, slots := 0, locals := 169 } s m args below meth c (MQ below (zQ D cA base h hE (some (.int rE))) args s 0 0 (zA base)) 5 D cA base h 10 [(0, .ref (base + r0)), (1, .int x1), (2, .int x2), (3, .int q.1), (4, .int q.2.1)] [] q.2.2)) (E := (fun (en : Nat) (q : Int32 × Int32 × Zh) => if en = 1 then zG p l e { frames := 7, cells := 0, slots := 0, locals := 169 } s m args below meth c (MQ below (zQ D cA base h hE (some (.int rE))) args s 0 0 (zA base)) 5 D cA base h 47 [(4, .int q.2.1)] [] q.2.2 else zG p l e { frames := 7, cells := 0, slots := 0, locals := 169 } s m args below meth c (MQ below (zQ D cA base h hE (some (.int rE))) args s 0 0 (zA base)) 5 D cA base h 59 [(0, .ref (base + r0))] [] q.2.2)) ?_ zB ((0 : Int32), ((0 : Int32), h2)) qq.1 qq.2 hlp ?_
  · intro q e_10 q_10 hf hc0 hc1
    obtain ⟨x3_10, x4_10, h_10⟩ := q
    have hf : bX12_led_10 h r0 x1 x2 x3_10 x4_10 h_10 = some (e_10, q_10) := hf
    unfold bX12_led_10 at hf
    show zG p l e { frames := 7, cells := 0, slots := 0, locals := 169 } s m args below meth c (MQ below (zQ D cA base h hE (some (.int rE))) args s 0 0 (zA base)) 5 D cA base h 10 [(0, .ref (base + r0)), (1, .int x1), (2, .int x2), (3, .int x3_10), (4, .int x4_10)] [] h_10
    refine g_aload_n X 0 dX12_led_10 rfl ?_
    refine g_iload_n X 1 dX12_led_11 rfl ?_
    obtain ⟨v4, h3, hch3, hf⟩ := zc2_e hf
    refine g_callV X 1 (sX12_isRule hch3) zf12 hk1 ydX12_isRule w_ml_RX12_430 w_instanceMethod_X12_isRule w_sel_X12_isRule w_ini_RX12 w_code_X12_isRule (by decide) rfl (st := []) rfl rfl (Nat.le_of_ble_eq_true rfl) dX12_led_12 ?_
    refine g_if_eq X 59 dX12_led_15 (by decide) (fun hq => ?_) (fun hq => ?_)
    · have hf := zpos hq hf
      cases hf
      have hc1 := hc1 (by decide)
      exact g_sub [0] rfl (zun_n (by decide) hc1)
    · have hf := zneg hq hf
      refine g_iload X 4 dX12_led_18 rfl ?_
      refine g_aload_n X 0 dX12_led_20 rfl ?_
      refine g_get X zf12 hk1 17 (by decide) w_f_RX12_356 rfl rfl dX12_led_21 ?_
      refine g_icmp_ge X 59 dX12_led_24 (by decide) (fun hq => ?_) (fun hq => ?_)
      · have hf := zpos hq hf
        cases hf
        have hc1 := hc1 (by decide)
        exact g_sub [0] rfl (zun_n (by decide) hc1)
      · have hf := zneg hq hf
        refine g_aload_n X 0 dX12_led_27 rfl ?_
        refine g_iload_n X 1 dX12_led_28 rfl ?_
        refine g_iload X 4 dX12_led_29 rfl ?_
        obtain ⟨v6, h5, hch5, hf⟩ := zc2_e hf
        refine g_callV X 2 (sX12_laysNow hch5) zf12 hk1 ydX12_laysNow w_ml_RX12_433 w_instanceMethod_X12_laysNow w_sel_X12_laysNow w_ini_RX12 w_code_X12_laysNow (by decide) rfl (st := []) rfl rfl (Nat.le_of_ble_eq_true rfl) dX12_led_31 ?_
        refine g_bipush X (v := -2) dX12_led_34 (by decide) ?_
        refine g_icmp_eq X 42 dX12_led_36 (by decide) (fun hq => ?_) (fun hq => ?_)
        · have hf := zpos hq hf
          refine g_iload_n X 3 dX12_led_42 rfl ?_
          refine g_iload_n X 2 dX12_led_43 rfl ?_
          refine g_icmp_ne X 50 dX12_led_44 (by decide) (fun hq => ?_) (fun hq => ?_)
          · have hf := zneg hq hf
            obtain ⟨y7, ey7⟩ : ∃ y : Int32, y = x3_10 + (1 : Int32) := ⟨_, rfl⟩
            have hf := zlet_n ey7 hf
            refine g_iinc X (j := 3) [(3, .int y7), (0, .ref (base + r0)), (1, .int x1), (2, .int x2), (4, .int x4_10)] dX12_led_50 rfl (by rw [ey7]; rfl) (by decide) rfl ?_
            obtain ⟨y8, ey8⟩ : ∃ y : Int32, y = x4_10 + (1 : Int32) := ⟨_, rfl⟩
            have hf := zlet_n ey8 hf
            refine g_iinc X (j := 4) [(4, .int y8), (3, .int y7), (0, .ref (base + r0)), (1, .int x1), (2, .int x2)] dX12_led_53 rfl (by rw [ey8]; rfl) (by decide) rfl ?_
            refine g_goto X 10 dX12_led_56 (by decide) ?_
            cases hf
            exact g_sub [2, 3, 4, 1, 0] rfl (hc0 rfl)
          · have hf := zpos hq hf
            cases hf
            have hc1 := hc1 (by decide)
            exact g_sub [4] rfl (zun_p rfl hc1)
        · have hf := zneg hq hf
          refine g_goto X 53 dX12_led_39 (by decide) ?_
          obtain ⟨y9, ey9⟩ : ∃ y : Int32, y = x4_10 + (1 : Int32) := ⟨_, rfl⟩
          have hf := zlet_n ey9 hf
          refine g_iinc X (j := 4) [(4, .int y9), (0, .ref (base + r0)), (1, .int x1), (2, .int x2), (3, .int x3_10)] dX12_led_53 rfl (by rw [ey9]; rfl) (by decide) rfl ?_
          refine g_goto X 10 dX12_led_56 (by decide) ?_
          cases hf
          exact g_sub [1, 2, 3, 4, 0] rfl (hc0 rfl)
  · obtain ⟨ee, x3_k10, x4_k10, h_k10⟩ := qq
    have hf : kX12_led_10 h r0 ee x3_k10 x4_k10 h_k10 = some (rE, hE) := hf
    unfold kX12_led_10 at hf
    by_cases hee0 : ee = 1
    · have hf := zpos hee0 hf
      refine zifp hee0 ?_
      show zG p l e { frames := 7, cells := 0, slots := 0, locals := 169 } s m args below meth c (MQ below (zQ D cA base h hE (some (.int rE))) args s 0 0 (zA base)) 5 D cA base h 47 [(4, .int x4_k10)] [] h_k10
      refine g_iload X 0 dX12_led_47 rfl ?_
      obtain ⟨rfl, rfl⟩ := zsm hf
      exact g_iret X hr dX12_led_49
    have hf := zneg hee0 hf
    refine zifn hee0 ?_
    show zG p l e { frames := 7, cells := 0, slots := 0, locals := 169 } s m args below meth c (MQ below (zQ D cA base h hE (some (.int rE))) args s 0 0 (zA base)) 5 D cA base h 59 [(0, .ref (base + r0))] [] h_k10
    refine g_aload_n X 0 dX12_led_59 rfl ?_
    refine g_iconst X (v := 1) dX12_led_60 (by decide) ?_
    refine g_putI X zf12 hk1 0 (by decide) w_f_RX12_86 rfl rfl rfl dX12_led_61 ?_
    refine g_hp (fun h10 eh10 => ?_)
    have hf := zlet_n eh10 hf
    refine g_iconst X (v := 0) dX12_led_64 (by decide) ?_
    obtain ⟨rfl, rfl⟩ := zsm hf
    exact g_iret X hr dX12_led_65

