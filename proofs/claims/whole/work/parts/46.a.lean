/-! FifthCardModel init -/
def fX12_init (r0 : Nat) (h : Zh) : Option Zh := zlet h fun g =>
  if zK h r0 = 12 then zlet (zsI h r0 2 ((-1 : Int32))) fun h2 => if 0 ≤ ((900 : Int32)).toInt ∧ ((900 : Int32)).toInt ≤ 1000000 then if zN h2 + 1 ≤ zNC ∧ zS h2 + ((900 : Int32)).toNatClampNeg ≤ zNS then zlet (znw h2 101 ((900 : Int32)).toNatClampNeg ((900 : Int32)).toNatClampNeg) fun h4 => if zK h4 r0 = 12 then zlet (zsR h4 r0 5 (some (zN h2))) fun h7 => if 0 ≤ ((10000 : Int32)).toInt ∧ ((10000 : Int32)).toInt ≤ 1000000 then if zN h7 + 1 ≤ zNC ∧ zS h7 + ((10000 : Int32)).toNatClampNeg ≤ zNS then zlet (znw h7 101 ((10000 : Int32)).toNatClampNeg ((10000 : Int32)).toNatClampNeg) fun h9 => if zK h9 r0 = 12 then zlet (zsR h9 r0 16 (some (zN h7))) fun h12 => if 0 ≤ ((5 : Int32)).toInt ∧ ((5 : Int32)).toInt ≤ 1000000 then if zN h12 + 1 ≤ zNC ∧ zS h12 + ((5 : Int32)).toNatClampNeg ≤ zNS then zlet (znw h12 100 ((5 : Int32)).toNatClampNeg ((5 : Int32)).toNatClampNeg) fun h14 => if zK h14 r0 = 12 then zlet (zsR h14 r0 18 (some (zN h12))) fun h17 => if 0 ≤ ((5 : Int32)).toInt ∧ ((5 : Int32)).toInt ≤ 1000000 then if zN h17 + 1 ≤ zNC ∧ zS h17 + ((5 : Int32)).toNatClampNeg ≤ zNS then zlet (znw h17 100 ((5 : Int32)).toNatClampNeg ((5 : Int32)).toNatClampNeg) fun h19 => if zK h19 r0 = 12 then zlet (zsR h19 r0 19 (some (zN h17))) fun h22 => if 0 ≤ ((5 : Int32)).toInt ∧ ((5 : Int32)).toInt ≤ 1000000 then if zN h22 + 1 ≤ zNC ∧ zS h22 + ((5 : Int32)).toNatClampNeg ≤ zNS then zlet (znw h22 100 ((5 : Int32)).toNatClampNeg ((5 : Int32)).toNatClampNeg) fun h24 => if zK h24 r0 = 12 then zlet (zsR h24 r0 20 (some (zN h22))) fun h27 => if 0 ≤ ((1920 : Int32)).toInt ∧ ((1920 : Int32)).toInt ≤ 1000000 then if zN h27 + 1 ≤ zNC ∧ zS h27 + ((1920 : Int32)).toNatClampNeg ≤ zNS then zlet (znw h27 100 ((1920 : Int32)).toNatClampNeg ((1920 : Int32)).toNatClampNeg) fun h29 => if zK h29 r0 = 12 then zlet (zsR h29 r0 21 (some (zN h27))) fun h32 => if 0 ≤ ((120 : Int32)).toInt ∧ ((120 : Int32)).toInt ≤ 1000000 then if zN h32 + 1 ≤ zNC ∧ zS h32 + ((120 : Int32)).toNatClampNeg ≤ zNS then zlet (znw h32 100 ((120 : Int32)).toNatClampNeg ((120 : Int32)).toNatClampNeg) fun h34 => if zK h34 r0 = 12 then zlet (zsR h34 r0 23 (some (zN h32))) fun h37 => if 0 ≤ ((2000 : Int32)).toInt ∧ ((2000 : Int32)).toInt ≤ 1000000 then if zN h37 + 1 ≤ zNC ∧ zS h37 + ((2000 : Int32)).toNatClampNeg ≤ zNS then zlet (znw h37 100 ((2000 : Int32)).toNatClampNeg ((2000 : Int32)).toNatClampNeg) fun h39 => if zK h39 r0 = 12 then zlet (zsR h39 r0 25 (some (zN h37))) fun h42 => if 0 ≤ ((5 : Int32)).toInt ∧ ((5 : Int32)).toInt ≤ 1000000 then if zN h42 + 1 ≤ zNC ∧ zS h42 + ((5 : Int32)).toNatClampNeg ≤ zNS then zlet (znw h42 100 ((5 : Int32)).toNatClampNeg ((5 : Int32)).toNatClampNeg) fun h44 => if zK h44 r0 = 12 then zlet (zsR h44 r0 26 (some (zN h42))) fun h47 => if 0 ≤ ((32768 : Int32)).toInt ∧ ((32768 : Int32)).toInt ≤ 1000000 then if zN h47 + 1 ≤ zNC ∧ zS h47 + ((32768 : Int32)).toNatClampNeg ≤ zNS then zlet (znw h47 100 ((32768 : Int32)).toNatClampNeg ((32768 : Int32)).toNatClampNeg) fun h49 => if zK h49 r0 = 12 then zlet (zsR h49 r0 27 (some (zN h47))) fun h52 => if 0 ≤ ((32768 : Int32)).toInt ∧ ((32768 : Int32)).toInt ≤ 1000000 then if zN h52 + 1 ≤ zNC ∧ zS h52 + ((32768 : Int32)).toNatClampNeg ≤ zNS then zlet (znw h52 100 ((32768 : Int32)).toNatClampNeg ((32768 : Int32)).toNatClampNeg) fun h54 => if zK h54 r0 = 12 then zlet (zsR h54 r0 28 (some (zN h52))) fun h57 => if 0 ≤ ((2000 : Int32)).toInt ∧ ((2000 : Int32)).toInt ≤ 1000000 then if zN h57 + 1 ≤ zNC ∧ zS h57 + ((2000 : Int32)).toNatClampNeg ≤ zNS then zlet (znw h57 100 ((2000 : Int32)).toNatClampNeg ((2000 : Int32)).toNatClampNeg) fun h59 => if zK h59 r0 = 12 then zlet (zsR h59 r0 29 (some (zN h57))) fun h62 => if 0 ≤ ((2000 : Int32)).toInt ∧ ((2000 : Int32)).toInt ≤ 1000000 then if zN h62 + 1 ≤ zNC ∧ zS h62 + ((2000 : Int32)).toNatClampNeg ≤ zNS then zlet (znw h62 100 ((2000 : Int32)).toNatClampNeg ((2000 : Int32)).toNatClampNeg) fun h64 => if zK h64 r0 = 12 then zlet (zsR h64 r0 30 (some (zN h62))) fun h67 => if 0 ≤ ((2000 : Int32)).toInt ∧ ((2000 : Int32)).toInt ≤ 1000000 then if zN h67 + 1 ≤ zNC ∧ zS h67 + ((2000 : Int32)).toNatClampNeg ≤ zNS then zlet (znw h67 100 ((2000 : Int32)).toNatClampNeg ((2000 : Int32)).toNatClampNeg) fun h69 => if zK h69 r0 = 12 then zlet (zsR h69 r0 31 (some (zN h67))) fun h72 => if 0 ≤ ((2000 : Int32)).toInt ∧ ((2000 : Int32)).toInt ≤ 1000000 then if zN h72 + 1 ≤ zNC ∧ zS h72 + ((2000 : Int32)).toNatClampNeg ≤ zNS then zlet (znw h72 103 ((2000 : Int32)).toNatClampNeg ((2000 : Int32)).toNatClampNeg) fun h74 => if zK h74 r0 = 12 then zlet (zsR h74 r0 32 (some (zN h72))) fun h77 => if 0 ≤ ((300 : Int32)).toInt ∧ ((300 : Int32)).toInt ≤ 1000000 then if zN h77 + 1 ≤ zNC ∧ zS h77 + ((300 : Int32)).toNatClampNeg ≤ zNS then zlet (znw h77 100 ((300 : Int32)).toNatClampNeg ((300 : Int32)).toNatClampNeg) fun h79 => if zK h79 r0 = 12 then zlet (zsR h79 r0 33 (some (zN h77))) fun h82 => if 0 ≤ ((1920 : Int32)).toInt ∧ ((1920 : Int32)).toInt ≤ 1000000 then if zN h82 + 1 ≤ zNC ∧ zS h82 + ((1920 : Int32)).toNatClampNeg ≤ zNS then zlet (znw h82 100 ((1920 : Int32)).toNatClampNeg ((1920 : Int32)).toNatClampNeg) fun h84 => if zK h84 r0 = 12 then zlet (zsR h84 r0 34 (some (zN h82))) fun h87 => if 0 ≤ ((20 : Int32)).toInt ∧ ((20 : Int32)).toInt ≤ 1000000 then if zN h87 + 1 ≤ zNC ∧ zS h87 + ((20 : Int32)).toNatClampNeg ≤ zNS then zlet (znw h87 100 ((20 : Int32)).toNatClampNeg ((20 : Int32)).toNatClampNeg) fun h89 => if zK h89 r0 = 12 then zlet (zsR h89 r0 37 (some (zN h87))) fun h92 => if 0 ≤ ((20 : Int32)).toInt ∧ ((20 : Int32)).toInt ≤ 1000000 then if zN h92 + 1 ≤ zNC ∧ zS h92 + ((20 : Int32)).toNatClampNeg ≤ zNS then zlet (znw h92 100 ((20 : Int32)).toNatClampNeg ((20 : Int32)).toNatClampNeg) fun h94 => if zK h94 r0 = 12 then zlet (zsR h94 r0 38 (some (zN h92))) fun h97 => if 0 ≤ ((60 : Int32)).toInt ∧ ((60 : Int32)).toInt ≤ 1000000 then if zN h97 + 1 ≤ zNC ∧ zS h97 + ((60 : Int32)).toNatClampNeg ≤ zNS then zlet (znw h97 100 ((60 : Int32)).toNatClampNeg ((60 : Int32)).toNatClampNeg) fun h99 => if zK h99 r0 = 12 then zlet (zsR h99 r0 39 (some (zN h97))) fun h102 => if 0 ≤ ((60 : Int32)).toInt ∧ ((60 : Int32)).toInt ≤ 1000000 then if zN h102 + 1 ≤ zNC ∧ zS h102 + ((60 : Int32)).toNatClampNeg ≤ zNS then zlet (znw h102 100 ((60 : Int32)).toNatClampNeg ((60 : Int32)).toNatClampNeg) fun h104 => if zK h104 r0 = 12 then zlet (zsR h104 r0 40 (some (zN h102))) fun h107 => if 0 ≤ ((3 : Int32)).toInt ∧ ((3 : Int32)).toInt ≤ 1000000 then if zN h107 + 1 ≤ zNC ∧ zS h107 + ((3 : Int32)).toNatClampNeg ≤ zNS then zlet (znw h107 100 ((3 : Int32)).toNatClampNeg ((3 : Int32)).toNatClampNeg) fun h109 => if zK h109 r0 = 12 then zlet (zsR h109 r0 41 (some (zN h107))) fun h112 => if 0 ≤ ((3 : Int32)).toInt ∧ ((3 : Int32)).toInt ≤ 1000000 then if zN h112 + 1 ≤ zNC ∧ zS h112 + ((3 : Int32)).toNatClampNeg ≤ zNS then zlet (znw h112 100 ((3 : Int32)).toNatClampNeg ((3 : Int32)).toNatClampNeg) fun h114 => if zK h114 r0 = 12 then zlet (zsR h114 r0 42 (some (zN h112))) fun h117 => some h117 else none else none else none else none else none else none else none else none else none else none else none else none else none else none else none else none else none else none else none else none else none else none else none else none else none else none else none else none else none else none else none else none else none else none else none else none else none else none else none else none else none else none else none else none else none else none else none else none else none else none else none else none else none else none else none else none else none else none else none else none else none else none else none else none else none else none else none else none else none else none
/-! FifthCardModel trick -/
def bX12_trick_133 (g : Zh) (r0 : Nat) (x2 : Int32) (h : Zh) : Option (Nat × Int32 × Zh) :=
  if zK h r0 = 12 then if (zI h r0 43) ≤ x2 then some (1, (x2, h)) else (zR h r0 37).bind fun r_43 => (zR h r0 3).bind fun r_44 => if zK h r_44 = 11 then (zR h r_44 11).bind fun r_46 => zc2 (fX12_handNumber r0 r_46 (((5 : Int32)) * x2) h) fun v48 h47 => if zK h47 r_43 = 100 then if zin x2 (zL h47 r_43) then zlet (zsI h47 r_43 x2.toNatClampNeg v48) fun h51 => if zK h51 r0 = 12 then (zR h51 r0 38).bind fun r_53 => (zR h51 r0 3).bind fun r_54 => if zK h51 r_54 = 11 then (zR h51 r_54 12).bind fun r_56 => zc2 (fX12_rowNumber r0 r_56 (((5 : Int32)) * x2) h51) fun v58 h57 => if zK h57 r0 = 12 then (zR h57 r0 3).bind fun r_60 => if zK h57 r_60 = 11 then zc2 (fX11_tilts r_60 h57) fun v63 h62 => if zK h62 r0 = 12 then (zR h62 r0 3).bind fun r_65 => if zK h62 r_65 = 11 then (zR h62 r_65 13).bind fun r_67 => if zK h62 r_67 = 100 then if zin x2 (zL h62 r_67) then if zK h62 r_53 = 100 then if zin x2 (zL h62 r_53) then zlet (zsI h62 r_53 x2.toNatClampNeg ((v58 * v63) + (zI h62 r_67 x2.toNatClampNeg))) fun h72 => zlet (x2 + (1 : Int32)) fun y73 => some (0, (y73, h72)) else none else none else none else none else none else none else none else none else none else none else none else none else none else none
def kX12_trick_133 (g : Zh) (r0 : Nat) (e : Nat) (x2 : Int32) (h : Zh) : Option (Int32 × Zh) :=
  if zK h r0 = 12 then (zR h r0 3).bind fun r_75 => if zK h r_75 = 11 then zc2 (fX12_good r0 (zI h r_75 5) h) fun v78 h77 => some (v78, h77) else none else none
def fX12_trick (r0 : Nat) (x1 : Int32) (h : Zh) : Option (Int32 × Zh) := zlet h fun g =>
  if zK h r0 = 12 then zlet (zsI h r0 0 ((0 : Int32))) fun h2 => if x1 < 0 then if zK h2 r0 = 12 then zc2 (fX12_refused r0 ((2 : Int32)) h2) fun v5 h4 => some (v5, h4) else none else if zK h2 r0 = 12 then if x1 ≤ (zI h2 r0 6) then zlet (zsI h2 r0 7 x1) fun h7 => if zK h7 r0 = 12 then zlet (zsI h7 r0 6 ((0 : Int32))) fun h9 => if zK h9 r0 = 12 then zlet (zsI h9 r0 8 ((0 : Int32))) fun h11 => if zK h11 r0 = 12 then zlet (zsI h11 r0 13 ((0 : Int32))) fun h13 => if zN h13 + 1 ≤ zNC ∧ zS h13 + 15 ≤ zNS then zlet (znw h13 11 0 15) fun h15 => (fX11_init (zN h13) h15).bind fun h16 => if zK h16 r0 = 12 then zlet (zsR h16 r0 4 (some (zN h13))) fun h18 => if zK h18 r0 = 12 then zlet (zsI h18 r0 9 ((0 : Int32))) fun h20 => if zK h20 r0 = 12 then (fX12_goesOn r0 h20).bind fun h22 => if zK h22 r0 = 12 then (fX12_readAll r0 h22).bind fun h24 => if zK h24 r0 = 12 then if (zI h24 r0 13) ≤ 0 then (zR h24 r0 4).bind fun r_26 => zlet (zsR h24 r0 3 (some r_26)) fun h27 => if zK h27 r0 = 12 then zlet (zsI h27 r0 45 ((0 : Int32))) fun h29 => if zK h29 r0 = 12 then zlet (zsI h29 r0 44 ((0 : Int32))) fun h31 => if zK h31 r0 = 12 then (fX12_deals r0 h31).bind fun h33 => if zK h33 r0 = 12 then (fX12_laysCodes r0 h33).bind fun h35 => if zK h35 r0 = 12 then zlet (zsI h35 r0 35 ((0 : Int32))) fun h37 => if zK h37 r0 = 12 then (zR h37 r0 3).bind fun r_39 => if zK h37 r_39 = 11 then zlet (zsI h37 r0 43 (zI h37 r_39 6)) fun h41 => (lp (fun q : Int32 × Zh => bX12_trick_133 g r0 q.1 q.2) zB ((0 : Int32), h41)).bind fun q => kX12_trick_133 g r0 q.1 q.2.1 q.2.2 else none else none else none else none else none else none else none else zlet (zsI h24 r0 1 ((4 : Int32))) fun h79 => if zK h79 r0 = 12 then zlet (zsI h79 r0 2 (zI h79 r0 14)) fun h81 => some ((-1 : Int32), h81) else none else none else none else none else none else none else none else none else none else none else zc2 (fX12_refused r0 ((2 : Int32)) h2) fun v83 h82 => some (v83, h82) else none else none
theorem dX12_init_0 : decode cX12_init 0 = .ok (.aload_n 0, 1) := by decide +kernel
theorem dX12_init_1 : decode cX12_init 1 = .ok (.invokespecial 1, 3) := by decide +kernel
theorem dX12_init_4 : decode cX12_init 4 = .ok (.aload_n 0, 1) := by decide +kernel
theorem dX12_init_5 : decode cX12_init 5 = .ok (.iconst (-1), 1) := by decide +kernel
theorem dX12_init_6 : decode cX12_init 6 = .ok (.putfield 9, 3) := by decide +kernel
theorem dX12_init_9 : decode cX12_init 9 = .ok (.aload_n 0, 1) := by decide +kernel
theorem dX12_init_10 : decode cX12_init 10 = .ok (.sipush 900, 3) := by decide +kernel
theorem dX12_init_13 : decode cX12_init 13 = .ok (.newarray .byte, 2) := by decide +kernel
theorem dX12_init_15 : decode cX12_init 15 = .ok (.putfield 13, 3) := by decide +kernel
theorem dX12_init_18 : decode cX12_init 18 = .ok (.aload_n 0, 1) := by decide +kernel
theorem dX12_init_19 : decode cX12_init 19 = .ok (.sipush 10000, 3) := by decide +kernel
theorem dX12_init_22 : decode cX12_init 22 = .ok (.newarray .byte, 2) := by decide +kernel
theorem dX12_init_24 : decode cX12_init 24 = .ok (.putfield 17, 3) := by decide +kernel
theorem dX12_init_27 : decode cX12_init 27 = .ok (.aload_n 0, 1) := by decide +kernel
theorem dX12_init_28 : decode cX12_init 28 = .ok (.iconst 5, 1) := by decide +kernel
theorem dX12_init_29 : decode cX12_init 29 = .ok (.newarray .int, 2) := by decide +kernel
theorem dX12_init_31 : decode cX12_init 31 = .ok (.putfield 20, 3) := by decide +kernel
theorem dX12_init_34 : decode cX12_init 34 = .ok (.aload_n 0, 1) := by decide +kernel
theorem dX12_init_35 : decode cX12_init 35 = .ok (.iconst 5, 1) := by decide +kernel
theorem dX12_init_36 : decode cX12_init 36 = .ok (.newarray .int, 2) := by decide +kernel
theorem dX12_init_38 : decode cX12_init 38 = .ok (.putfield 24, 3) := by decide +kernel
theorem dX12_init_41 : decode cX12_init 41 = .ok (.aload_n 0, 1) := by decide +kernel
theorem dX12_init_42 : decode cX12_init 42 = .ok (.iconst 5, 1) := by decide +kernel
theorem dX12_init_43 : decode cX12_init 43 = .ok (.newarray .int, 2) := by decide +kernel
theorem dX12_init_45 : decode cX12_init 45 = .ok (.putfield 27, 3) := by decide +kernel
theorem dX12_init_48 : decode cX12_init 48 = .ok (.aload_n 0, 1) := by decide +kernel
theorem dX12_init_49 : decode cX12_init 49 = .ok (.sipush 1920, 3) := by decide +kernel
theorem dX12_init_52 : decode cX12_init 52 = .ok (.newarray .int, 2) := by decide +kernel
theorem dX12_init_54 : decode cX12_init 54 = .ok (.putfield 30, 3) := by decide +kernel
theorem dX12_init_57 : decode cX12_init 57 = .ok (.aload_n 0, 1) := by decide +kernel
theorem dX12_init_58 : decode cX12_init 58 = .ok (.bipush 120, 2) := by decide +kernel
theorem dX12_init_60 : decode cX12_init 60 = .ok (.newarray .int, 2) := by decide +kernel
theorem dX12_init_62 : decode cX12_init 62 = .ok (.putfield 33, 3) := by decide +kernel
theorem dX12_init_65 : decode cX12_init 65 = .ok (.aload_n 0, 1) := by decide +kernel
theorem dX12_init_66 : decode cX12_init 66 = .ok (.sipush 2000, 3) := by decide +kernel
theorem dX12_init_69 : decode cX12_init 69 = .ok (.newarray .int, 2) := by decide +kernel
theorem dX12_init_71 : decode cX12_init 71 = .ok (.putfield 36, 3) := by decide +kernel
theorem dX12_init_74 : decode cX12_init 74 = .ok (.aload_n 0, 1) := by decide +kernel
theorem dX12_init_75 : decode cX12_init 75 = .ok (.iconst 5, 1) := by decide +kernel
theorem dX12_init_76 : decode cX12_init 76 = .ok (.newarray .int, 2) := by decide +kernel
theorem dX12_init_78 : decode cX12_init 78 = .ok (.putfield 39, 3) := by decide +kernel
theorem dX12_init_81 : decode cX12_init 81 = .ok (.aload_n 0, 1) := by decide +kernel
theorem dX12_init_82 : decode cX12_init 82 = .ok (.ldc 42, 2) := by decide +kernel
theorem dX12_init_84 : decode cX12_init 84 = .ok (.newarray .int, 2) := by decide +kernel
theorem dX12_init_86 : decode cX12_init 86 = .ok (.putfield 43, 3) := by decide +kernel
theorem dX12_init_89 : decode cX12_init 89 = .ok (.aload_n 0, 1) := by decide +kernel
theorem dX12_init_90 : decode cX12_init 90 = .ok (.ldc 42, 2) := by decide +kernel
theorem dX12_init_92 : decode cX12_init 92 = .ok (.newarray .int, 2) := by decide +kernel
theorem dX12_init_94 : decode cX12_init 94 = .ok (.putfield 46, 3) := by decide +kernel
theorem dX12_init_97 : decode cX12_init 97 = .ok (.aload_n 0, 1) := by decide +kernel
theorem dX12_init_98 : decode cX12_init 98 = .ok (.sipush 2000, 3) := by decide +kernel
theorem dX12_init_101 : decode cX12_init 101 = .ok (.newarray .int, 2) := by decide +kernel
theorem dX12_init_103 : decode cX12_init 103 = .ok (.putfield 49, 3) := by decide +kernel
theorem dX12_init_106 : decode cX12_init 106 = .ok (.aload_n 0, 1) := by decide +kernel
theorem dX12_init_107 : decode cX12_init 107 = .ok (.sipush 2000, 3) := by decide +kernel
theorem dX12_init_110 : decode cX12_init 110 = .ok (.newarray .int, 2) := by decide +kernel
theorem dX12_init_112 : decode cX12_init 112 = .ok (.putfield 52, 3) := by decide +kernel
theorem dX12_init_115 : decode cX12_init 115 = .ok (.aload_n 0, 1) := by decide +kernel
theorem dX12_init_116 : decode cX12_init 116 = .ok (.sipush 2000, 3) := by decide +kernel
theorem dX12_init_119 : decode cX12_init 119 = .ok (.newarray .int, 2) := by decide +kernel
theorem dX12_init_121 : decode cX12_init 121 = .ok (.putfield 55, 3) := by decide +kernel
theorem dX12_init_124 : decode cX12_init 124 = .ok (.aload_n 0, 1) := by decide +kernel
theorem dX12_init_125 : decode cX12_init 125 = .ok (.sipush 2000, 3) := by decide +kernel
theorem dX12_init_128 : decode cX12_init 128 = .ok (.newarray .boolean, 2) := by decide +kernel
theorem dX12_init_130 : decode cX12_init 130 = .ok (.putfield 58, 3) := by decide +kernel
theorem dX12_init_133 : decode cX12_init 133 = .ok (.aload_n 0, 1) := by decide +kernel
theorem dX12_init_134 : decode cX12_init 134 = .ok (.sipush 300, 3) := by decide +kernel
theorem dX12_init_137 : decode cX12_init 137 = .ok (.newarray .int, 2) := by decide +kernel
theorem dX12_init_139 : decode cX12_init 139 = .ok (.putfield 62, 3) := by decide +kernel
theorem dX12_init_142 : decode cX12_init 142 = .ok (.aload_n 0, 1) := by decide +kernel
theorem dX12_init_143 : decode cX12_init 143 = .ok (.sipush 1920, 3) := by decide +kernel
theorem dX12_init_146 : decode cX12_init 146 = .ok (.newarray .int, 2) := by decide +kernel
theorem dX12_init_148 : decode cX12_init 148 = .ok (.putfield 65, 3) := by decide +kernel
theorem dX12_init_151 : decode cX12_init 151 = .ok (.aload_n 0, 1) := by decide +kernel
theorem dX12_init_152 : decode cX12_init 152 = .ok (.bipush 20, 2) := by decide +kernel
theorem dX12_init_154 : decode cX12_init 154 = .ok (.newarray .int, 2) := by decide +kernel
theorem dX12_init_156 : decode cX12_init 156 = .ok (.putfield 68, 3) := by decide +kernel
theorem dX12_init_159 : decode cX12_init 159 = .ok (.aload_n 0, 1) := by decide +kernel
theorem dX12_init_160 : decode cX12_init 160 = .ok (.bipush 20, 2) := by decide +kernel
theorem dX12_init_162 : decode cX12_init 162 = .ok (.newarray .int, 2) := by decide +kernel
theorem dX12_init_164 : decode cX12_init 164 = .ok (.putfield 71, 3) := by decide +kernel
theorem dX12_init_167 : decode cX12_init 167 = .ok (.aload_n 0, 1) := by decide +kernel
theorem dX12_init_168 : decode cX12_init 168 = .ok (.bipush 60, 2) := by decide +kernel
theorem dX12_init_170 : decode cX12_init 170 = .ok (.newarray .int, 2) := by decide +kernel
theorem dX12_init_172 : decode cX12_init 172 = .ok (.putfield 74, 3) := by decide +kernel
theorem dX12_init_175 : decode cX12_init 175 = .ok (.aload_n 0, 1) := by decide +kernel
theorem dX12_init_176 : decode cX12_init 176 = .ok (.bipush 60, 2) := by decide +kernel
theorem dX12_init_178 : decode cX12_init 178 = .ok (.newarray .int, 2) := by decide +kernel
theorem dX12_init_180 : decode cX12_init 180 = .ok (.putfield 77, 3) := by decide +kernel
theorem dX12_init_183 : decode cX12_init 183 = .ok (.aload_n 0, 1) := by decide +kernel
theorem dX12_init_184 : decode cX12_init 184 = .ok (.iconst 3, 1) := by decide +kernel
theorem dX12_init_185 : decode cX12_init 185 = .ok (.newarray .int, 2) := by decide +kernel
theorem dX12_init_187 : decode cX12_init 187 = .ok (.putfield 80, 3) := by decide +kernel
theorem dX12_init_190 : decode cX12_init 190 = .ok (.aload_n 0, 1) := by decide +kernel
theorem dX12_init_191 : decode cX12_init 191 = .ok (.iconst 3, 1) := by decide +kernel
theorem dX12_init_192 : decode cX12_init 192 = .ok (.newarray .int, 2) := by decide +kernel
theorem dX12_init_194 : decode cX12_init 194 = .ok (.putfield 83, 3) := by decide +kernel
theorem dX12_init_197 : decode cX12_init 197 = .ok (.return_, 1) := by decide +kernel
theorem dX12_trick_0 : decode cX12_trick 0 = .ok (.aload_n 0, 1) := by decide +kernel
theorem dX12_trick_1 : decode cX12_trick 1 = .ok (.iconst 0, 1) := by decide +kernel
theorem dX12_trick_2 : decode cX12_trick 2 = .ok (.putfield 86, 3) := by decide +kernel
theorem dX12_trick_5 : decode cX12_trick 5 = .ok (.iload_n 1, 1) := by decide +kernel
theorem dX12_trick_6 : decode cX12_trick 6 = .ok (.ifCond .lt 11, 3) := by decide +kernel
theorem dX12_trick_9 : decode cX12_trick 9 = .ok (.iload_n 1, 1) := by decide +kernel
theorem dX12_trick_10 : decode cX12_trick 10 = .ok (.aload_n 0, 1) := by decide +kernel
theorem dX12_trick_11 : decode cX12_trick 11 = .ok (.getfield 322, 3) := by decide +kernel
theorem dX12_trick_14 : decode cX12_trick 14 = .ok (.if_icmp .le 9, 3) := by decide +kernel
theorem dX12_trick_17 : decode cX12_trick 17 = .ok (.aload_n 0, 1) := by decide +kernel
theorem dX12_trick_18 : decode cX12_trick 18 = .ok (.iconst 2, 1) := by decide +kernel
theorem dX12_trick_19 : decode cX12_trick 19 = .ok (.invokevirtual 92, 3) := by decide +kernel
theorem dX12_trick_22 : decode cX12_trick 22 = .ok (.ireturn, 1) := by decide +kernel
theorem dX12_trick_23 : decode cX12_trick 23 = .ok (.aload_n 0, 1) := by decide +kernel
theorem dX12_trick_24 : decode cX12_trick 24 = .ok (.iload_n 1, 1) := by decide +kernel
theorem dX12_trick_25 : decode cX12_trick 25 = .ok (.putfield 103, 3) := by decide +kernel
theorem dX12_trick_28 : decode cX12_trick 28 = .ok (.aload_n 0, 1) := by decide +kernel
theorem dX12_trick_29 : decode cX12_trick 29 = .ok (.iconst 0, 1) := by decide +kernel
theorem dX12_trick_30 : decode cX12_trick 30 = .ok (.putfield 322, 3) := by decide +kernel
theorem dX12_trick_33 : decode cX12_trick 33 = .ok (.aload_n 0, 1) := by decide +kernel
theorem dX12_trick_34 : decode cX12_trick 34 = .ok (.iconst 0, 1) := by decide +kernel
theorem dX12_trick_35 : decode cX12_trick 35 = .ok (.putfield 121, 3) := by decide +kernel
theorem dX12_trick_38 : decode cX12_trick 38 = .ok (.aload_n 0, 1) := by decide +kernel
theorem dX12_trick_39 : decode cX12_trick 39 = .ok (.iconst 0, 1) := by decide +kernel
theorem dX12_trick_40 : decode cX12_trick 40 = .ok (.putfield 147, 3) := by decide +kernel
theorem dX12_trick_43 : decode cX12_trick 43 = .ok (.aload_n 0, 1) := by decide +kernel
theorem dX12_trick_44 : decode cX12_trick 44 = .ok (.new 195, 3) := by decide +kernel
theorem dX12_trick_47 : decode cX12_trick 47 = .ok (.dup, 1) := by decide +kernel
theorem dX12_trick_48 : decode cX12_trick 48 = .ok (.invokespecial 325, 3) := by decide +kernel
theorem dX12_trick_51 : decode cX12_trick 51 = .ok (.putfield 190, 3) := by decide +kernel
theorem dX12_trick_54 : decode cX12_trick 54 = .ok (.aload_n 0, 1) := by decide +kernel
theorem dX12_trick_55 : decode cX12_trick 55 = .ok (.iconst 0, 1) := by decide +kernel
theorem dX12_trick_56 : decode cX12_trick 56 = .ok (.putfield 118, 3) := by decide +kernel
theorem dX12_trick_59 : decode cX12_trick 59 = .ok (.aload_n 0, 1) := by decide +kernel
theorem dX12_trick_60 : decode cX12_trick 60 = .ok (.invokevirtual 161, 3) := by decide +kernel
theorem dX12_trick_63 : decode cX12_trick 63 = .ok (.aload_n 0, 1) := by decide +kernel
theorem dX12_trick_64 : decode cX12_trick 64 = .ok (.invokevirtual 326, 3) := by decide +kernel
theorem dX12_trick_67 : decode cX12_trick 67 = .ok (.aload_n 0, 1) := by decide +kernel
theorem dX12_trick_68 : decode cX12_trick 68 = .ok (.getfield 147, 3) := by decide +kernel
theorem dX12_trick_71 : decode cX12_trick 71 = .ok (.ifCond .le 18, 3) := by decide +kernel
theorem dX12_trick_74 : decode cX12_trick 74 = .ok (.aload_n 0, 1) := by decide +kernel
theorem dX12_trick_75 : decode cX12_trick 75 = .ok (.iconst 4, 1) := by decide +kernel
theorem dX12_trick_76 : decode cX12_trick 76 = .ok (.putfield 89, 3) := by decide +kernel
theorem dX12_trick_79 : decode cX12_trick 79 = .ok (.aload_n 0, 1) := by decide +kernel
theorem dX12_trick_80 : decode cX12_trick 80 = .ok (.aload_n 0, 1) := by decide +kernel
theorem dX12_trick_81 : decode cX12_trick 81 = .ok (.getfield 150, 3) := by decide +kernel
theorem dX12_trick_84 : decode cX12_trick 84 = .ok (.putfield 9, 3) := by decide +kernel
theorem dX12_trick_87 : decode cX12_trick 87 = .ok (.iconst (-1), 1) := by decide +kernel
theorem dX12_trick_88 : decode cX12_trick 88 = .ok (.ireturn, 1) := by decide +kernel
theorem dX12_trick_89 : decode cX12_trick 89 = .ok (.aload_n 0, 1) := by decide +kernel
theorem dX12_trick_90 : decode cX12_trick 90 = .ok (.aload_n 0, 1) := by decide +kernel
theorem dX12_trick_91 : decode cX12_trick 91 = .ok (.getfield 190, 3) := by decide +kernel
theorem dX12_trick_94 : decode cX12_trick 94 = .ok (.putfield 329, 3) := by decide +kernel
theorem dX12_trick_97 : decode cX12_trick 97 = .ok (.aload_n 0, 1) := by decide +kernel
theorem dX12_trick_98 : decode cX12_trick 98 = .ok (.iconst 0, 1) := by decide +kernel
theorem dX12_trick_99 : decode cX12_trick 99 = .ok (.putfield 331, 3) := by decide +kernel
theorem dX12_trick_102 : decode cX12_trick 102 = .ok (.aload_n 0, 1) := by decide +kernel
theorem dX12_trick_103 : decode cX12_trick 103 = .ok (.iconst 0, 1) := by decide +kernel
theorem dX12_trick_104 : decode cX12_trick 104 = .ok (.putfield 334, 3) := by decide +kernel
theorem dX12_trick_107 : decode cX12_trick 107 = .ok (.aload_n 0, 1) := by decide +kernel
theorem dX12_trick_108 : decode cX12_trick 108 = .ok (.invokevirtual 337, 3) := by decide +kernel
theorem dX12_trick_111 : decode cX12_trick 111 = .ok (.aload_n 0, 1) := by decide +kernel
theorem dX12_trick_112 : decode cX12_trick 112 = .ok (.invokevirtual 340, 3) := by decide +kernel
theorem dX12_trick_115 : decode cX12_trick 115 = .ok (.aload_n 0, 1) := by decide +kernel
theorem dX12_trick_116 : decode cX12_trick 116 = .ok (.iconst 0, 1) := by decide +kernel
theorem dX12_trick_117 : decode cX12_trick 117 = .ok (.putfield 343, 3) := by decide +kernel
theorem dX12_trick_120 : decode cX12_trick 120 = .ok (.aload_n 0, 1) := by decide +kernel
theorem dX12_trick_121 : decode cX12_trick 121 = .ok (.aload_n 0, 1) := by decide +kernel
theorem dX12_trick_122 : decode cX12_trick 122 = .ok (.getfield 329, 3) := by decide +kernel
theorem dX12_trick_125 : decode cX12_trick 125 = .ok (.getfield 305, 3) := by decide +kernel
theorem dX12_trick_128 : decode cX12_trick 128 = .ok (.putfield 346, 3) := by decide +kernel
theorem dX12_trick_131 : decode cX12_trick 131 = .ok (.iconst 0, 1) := by decide +kernel
theorem dX12_trick_132 : decode cX12_trick 132 = .ok (.istore_n 2, 1) := by decide +kernel
theorem dX12_trick_133 : decode cX12_trick 133 = .ok (.iload_n 2, 1) := by decide +kernel
theorem dX12_trick_134 : decode cX12_trick 134 = .ok (.aload_n 0, 1) := by decide +kernel
theorem dX12_trick_135 : decode cX12_trick 135 = .ok (.getfield 346, 3) := by decide +kernel
theorem dX12_trick_138 : decode cX12_trick 138 = .ok (.if_icmp .ge 67, 3) := by decide +kernel
theorem dX12_trick_141 : decode cX12_trick 141 = .ok (.aload_n 0, 1) := by decide +kernel
theorem dX12_trick_142 : decode cX12_trick 142 = .ok (.getfield 68, 3) := by decide +kernel
theorem dX12_trick_145 : decode cX12_trick 145 = .ok (.iload_n 2, 1) := by decide +kernel
theorem dX12_trick_146 : decode cX12_trick 146 = .ok (.aload_n 0, 1) := by decide +kernel
theorem dX12_trick_147 : decode cX12_trick 147 = .ok (.aload_n 0, 1) := by decide +kernel
theorem dX12_trick_148 : decode cX12_trick 148 = .ok (.getfield 329, 3) := by decide +kernel
theorem dX12_trick_151 : decode cX12_trick 151 = .ok (.getfield 308, 3) := by decide +kernel
theorem dX12_trick_154 : decode cX12_trick 154 = .ok (.iconst 5, 1) := by decide +kernel
theorem dX12_trick_155 : decode cX12_trick 155 = .ok (.iload_n 2, 1) := by decide +kernel
theorem dX12_trick_156 : decode cX12_trick 156 = .ok (.imul, 1) := by decide +kernel
theorem dX12_trick_157 : decode cX12_trick 157 = .ok (.invokevirtual 347, 3) := by decide +kernel
theorem dX12_trick_160 : decode cX12_trick 160 = .ok (.iastore, 1) := by decide +kernel
theorem dX12_trick_161 : decode cX12_trick 161 = .ok (.aload_n 0, 1) := by decide +kernel
theorem dX12_trick_162 : decode cX12_trick 162 = .ok (.getfield 71, 3) := by decide +kernel
theorem dX12_trick_165 : decode cX12_trick 165 = .ok (.iload_n 2, 1) := by decide +kernel
theorem dX12_trick_166 : decode cX12_trick 166 = .ok (.aload_n 0, 1) := by decide +kernel
theorem dX12_trick_167 : decode cX12_trick 167 = .ok (.aload_n 0, 1) := by decide +kernel
theorem dX12_trick_168 : decode cX12_trick 168 = .ok (.getfield 329, 3) := by decide +kernel
theorem dX12_trick_171 : decode cX12_trick 171 = .ok (.getfield 315, 3) := by decide +kernel
theorem dX12_trick_174 : decode cX12_trick 174 = .ok (.iconst 5, 1) := by decide +kernel
theorem dX12_trick_175 : decode cX12_trick 175 = .ok (.iload_n 2, 1) := by decide +kernel
theorem dX12_trick_176 : decode cX12_trick 176 = .ok (.imul, 1) := by decide +kernel
theorem dX12_trick_177 : decode cX12_trick 177 = .ok (.invokevirtual 351, 3) := by decide +kernel
theorem dX12_trick_180 : decode cX12_trick 180 = .ok (.aload_n 0, 1) := by decide +kernel
theorem dX12_trick_181 : decode cX12_trick 181 = .ok (.getfield 329, 3) := by decide +kernel
theorem dX12_trick_184 : decode cX12_trick 184 = .ok (.invokevirtual 354, 3) := by decide +kernel
theorem dX12_trick_187 : decode cX12_trick 187 = .ok (.imul, 1) := by decide +kernel
theorem dX12_trick_188 : decode cX12_trick 188 = .ok (.aload_n 0, 1) := by decide +kernel
theorem dX12_trick_189 : decode cX12_trick 189 = .ok (.getfield 329, 3) := by decide +kernel
theorem dX12_trick_192 : decode cX12_trick 192 = .ok (.getfield 319, 3) := by decide +kernel
theorem dX12_trick_195 : decode cX12_trick 195 = .ok (.iload_n 2, 1) := by decide +kernel
theorem dX12_trick_196 : decode cX12_trick 196 = .ok (.iaload, 1) := by decide +kernel
theorem dX12_trick_197 : decode cX12_trick 197 = .ok (.iadd, 1) := by decide +kernel
theorem dX12_trick_198 : decode cX12_trick 198 = .ok (.iastore, 1) := by decide +kernel
theorem dX12_trick_199 : decode cX12_trick 199 = .ok (.iinc 2 1, 3) := by decide +kernel
theorem dX12_trick_202 : decode cX12_trick 202 = .ok (.goto (-69), 3) := by decide +kernel
theorem dX12_trick_205 : decode cX12_trick 205 = .ok (.aload_n 0, 1) := by decide +kernel
theorem dX12_trick_206 : decode cX12_trick 206 = .ok (.aload_n 0, 1) := by decide +kernel
theorem dX12_trick_207 : decode cX12_trick 207 = .ok (.getfield 329, 3) := by decide +kernel
theorem dX12_trick_210 : decode cX12_trick 210 = .ok (.getfield 259, 3) := by decide +kernel
theorem dX12_trick_213 : decode cX12_trick 213 = .ok (.invokevirtual 96, 3) := by decide +kernel
theorem dX12_trick_216 : decode cX12_trick 216 = .ok (.ireturn, 1) := by decide +kernel
set_option maxHeartbeats 4000000 in
set_option maxRecDepth 100000 in
theorem sX12_init {l : Launch} {D : va_G} {cA : Nat → ClassId} {base : Nat} {sA : Nat → Nat} {r0 : Nat} {h hE : Zh} (hf : fX12_init r0 h = some hE) : zCA l yX12_init cX12_init 1 none 1 20 D cA base sA [.ref (base + r0)] h none hE := by
  refine a_entry RX12 (by decide) rfl (Nat.le_of_ble_eq_true rfl) ?_
  intro p e R s m args below meth c hRf hRl r hin X hr
  unfold fX12_init at hf
  have hf := zlet_n (x := h) rfl hf
  show zGA p l e R s m args below meth c (MQ below (zQA D cA base h hE none) args s (zNC - zN h) (zNS - zS h) (zA base)) 1 D cA base h 0 [(0, .ref (base + r0))] [] h
  refine a_aload_n X 0 dX12_init_0 rfl ?_
  refine a_objInit X r w_ol_RX12_1 w_ob2 w_ob3 (by rw [hRf]; decide) (by rw [hRl]; exact Nat.le_of_ble_eq_true rfl) dX12_init_1 ?_
  refine a_aload_n X 0 dX12_init_4 rfl ?_
  refine a_iconst X (v := -1) dX12_init_5 (by decide) ?_
  obtain ⟨hk1, hf⟩ := zite hf
  refine a_putI X zf12 hk1 2 (by decide) w_f_RX12_9 rfl rfl rfl dX12_init_6 ?_
  refine a_hp (fun h2 eh2 => ?_)
  have hf := zlet_n eh2 hf
  refine a_aload_n X 0 dX12_init_9 rfl ?_
  refine a_sipush X (v := 900) dX12_init_10 (by decide) ?_
  obtain ⟨hn5, hf⟩ := zite hf
  obtain ⟨hc3, hf⟩ := zite hf
  refine a_newa1 X r hn5 hc3 w_ac_byte dX12_init_13 ?_
  refine a_hp (fun h4 eh4 => ?_)
  have hf := zlet_n eh4 hf
  obtain ⟨hk6, hf⟩ := zite hf
  refine a_putFR X hin rfl zf12 hk6 5 (by decide) w_f_RX12_13 rfl rfl rfl dX12_init_15 ?_
  refine a_hp (fun h7 eh7 => ?_)
  have hf := zlet_n eh7 hf
  refine a_aload_n X 0 dX12_init_18 rfl ?_
  refine a_sipush X (v := 10000) dX12_init_19 (by decide) ?_
  obtain ⟨hn10, hf⟩ := zite hf
  obtain ⟨hc8, hf⟩ := zite hf
  refine a_newa1 X r hn10 hc8 w_ac_byte dX12_init_22 ?_
  refine a_hp (fun h9 eh9 => ?_)
  have hf := zlet_n eh9 hf
  obtain ⟨hk11, hf⟩ := zite hf
  refine a_putFR X hin rfl zf12 hk11 16 (by decide) w_f_RX12_17 rfl rfl rfl dX12_init_24 ?_
  refine a_hp (fun h12 eh12 => ?_)
  have hf := zlet_n eh12 hf
  refine a_aload_n X 0 dX12_init_27 rfl ?_
  refine a_iconst X (v := 5) dX12_init_28 (by decide) ?_
  obtain ⟨hn15, hf⟩ := zite hf
  obtain ⟨hc13, hf⟩ := zite hf
  refine a_newa0 X r hn15 hc13 w_ac_int dX12_init_29 ?_
  refine a_hp (fun h14 eh14 => ?_)
  have hf := zlet_n eh14 hf
  obtain ⟨hk16, hf⟩ := zite hf
  refine a_putFR X hin rfl zf12 hk16 18 (by decide) w_f_RX12_20 rfl rfl rfl dX12_init_31 ?_
  refine a_hp (fun h17 eh17 => ?_)
  have hf := zlet_n eh17 hf
  refine a_aload_n X 0 dX12_init_34 rfl ?_
  refine a_iconst X (v := 5) dX12_init_35 (by decide) ?_
  obtain ⟨hn20, hf⟩ := zite hf
  obtain ⟨hc18, hf⟩ := zite hf
  refine a_newa0 X r hn20 hc18 w_ac_int dX12_init_36 ?_
  refine a_hp (fun h19 eh19 => ?_)
  have hf := zlet_n eh19 hf
  obtain ⟨hk21, hf⟩ := zite hf
  refine a_putFR X hin rfl zf12 hk21 19 (by decide) w_f_RX12_24 rfl rfl rfl dX12_init_38 ?_
  refine a_hp (fun h22 eh22 => ?_)
  have hf := zlet_n eh22 hf
  refine a_aload_n X 0 dX12_init_41 rfl ?_
  refine a_iconst X (v := 5) dX12_init_42 (by decide) ?_
  obtain ⟨hn25, hf⟩ := zite hf
  obtain ⟨hc23, hf⟩ := zite hf
  refine a_newa0 X r hn25 hc23 w_ac_int dX12_init_43 ?_
  refine a_hp (fun h24 eh24 => ?_)
  have hf := zlet_n eh24 hf
  obtain ⟨hk26, hf⟩ := zite hf
  refine a_putFR X hin rfl zf12 hk26 20 (by decide) w_f_RX12_27 rfl rfl rfl dX12_init_45 ?_
  refine a_hp (fun h27 eh27 => ?_)
  have hf := zlet_n eh27 hf
  refine a_aload_n X 0 dX12_init_48 rfl ?_
  refine a_sipush X (v := 1920) dX12_init_49 (by decide) ?_
  obtain ⟨hn30, hf⟩ := zite hf
  obtain ⟨hc28, hf⟩ := zite hf
  refine a_newa0 X r hn30 hc28 w_ac_int dX12_init_52 ?_
  refine a_hp (fun h29 eh29 => ?_)
  have hf := zlet_n eh29 hf
  obtain ⟨hk31, hf⟩ := zite hf
  refine a_putFR X hin rfl zf12 hk31 21 (by decide) w_f_RX12_30 rfl rfl rfl dX12_init_54 ?_
  refine a_hp (fun h32 eh32 => ?_)
  have hf := zlet_n eh32 hf
  refine a_aload_n X 0 dX12_init_57 rfl ?_
  refine a_bipush X (v := 120) dX12_init_58 (by decide) ?_
  obtain ⟨hn35, hf⟩ := zite hf
  obtain ⟨hc33, hf⟩ := zite hf
  refine a_newa0 X r hn35 hc33 w_ac_int dX12_init_60 ?_
  refine a_hp (fun h34 eh34 => ?_)
  have hf := zlet_n eh34 hf
  obtain ⟨hk36, hf⟩ := zite hf
  refine a_putFR X hin rfl zf12 hk36 23 (by decide) w_f_RX12_33 rfl rfl rfl dX12_init_62 ?_
  refine a_hp (fun h37 eh37 => ?_)
  have hf := zlet_n eh37 hf
  refine a_aload_n X 0 dX12_init_65 rfl ?_
  refine a_sipush X (v := 2000) dX12_init_66 (by decide) ?_
  obtain ⟨hn40, hf⟩ := zite hf
  obtain ⟨hc38, hf⟩ := zite hf
  refine a_newa0 X r hn40 hc38 w_ac_int dX12_init_69 ?_
  refine a_hp (fun h39 eh39 => ?_)
  have hf := zlet_n eh39 hf
  obtain ⟨hk41, hf⟩ := zite hf
  refine a_putFR X hin rfl zf12 hk41 25 (by decide) w_f_RX12_36 rfl rfl rfl dX12_init_71 ?_
  refine a_hp (fun h42 eh42 => ?_)
  have hf := zlet_n eh42 hf
  refine a_aload_n X 0 dX12_init_74 rfl ?_
  refine a_iconst X (v := 5) dX12_init_75 (by decide) ?_
  obtain ⟨hn45, hf⟩ := zite hf
  obtain ⟨hc43, hf⟩ := zite hf
  refine a_newa0 X r hn45 hc43 w_ac_int dX12_init_76 ?_
  refine a_hp (fun h44 eh44 => ?_)
  have hf := zlet_n eh44 hf
  obtain ⟨hk46, hf⟩ := zite hf
  refine a_putFR X hin rfl zf12 hk46 26 (by decide) w_f_RX12_39 rfl rfl rfl dX12_init_78 ?_
  refine a_hp (fun h47 eh47 => ?_)
  have hf := zlet_n eh47 hf
  refine a_aload_n X 0 dX12_init_81 rfl ?_
  refine a_ldc X w_c_RX12_42 dX12_init_82 ?_
  obtain ⟨hn50, hf⟩ := zite hf
  obtain ⟨hc48, hf⟩ := zite hf
  refine a_newa0 X r hn50 hc48 w_ac_int dX12_init_84 ?_
  refine a_hp (fun h49 eh49 => ?_)
  have hf := zlet_n eh49 hf
  obtain ⟨hk51, hf⟩ := zite hf
  refine a_putFR X hin rfl zf12 hk51 27 (by decide) w_f_RX12_43 rfl rfl rfl dX12_init_86 ?_
  refine a_hp (fun h52 eh52 => ?_)
  have hf := zlet_n eh52 hf
  refine a_aload_n X 0 dX12_init_89 rfl ?_
  refine a_ldc X w_c_RX12_42 dX12_init_90 ?_
  obtain ⟨hn55, hf⟩ := zite hf
  obtain ⟨hc53, hf⟩ := zite hf
  refine a_newa0 X r hn55 hc53 w_ac_int dX12_init_92 ?_
  refine a_hp (fun h54 eh54 => ?_)
  have hf := zlet_n eh54 hf
  obtain ⟨hk56, hf⟩ := zite hf
  refine a_putFR X hin rfl zf12 hk56 28 (by decide) w_f_RX12_46 rfl rfl rfl dX12_init_94 ?_
  refine a_hp (fun h57 eh57 => ?_)
  have hf := zlet_n eh57 hf
  refine a_aload_n X 0 dX12_init_97 rfl ?_
  refine a_sipush X (v := 2000) dX12_init_98 (by decide) ?_
  obtain ⟨hn60, hf⟩ := zite hf
  obtain ⟨hc58, hf⟩ := zite hf
  refine a_newa0 X r hn60 hc58 w_ac_int dX12_init_101 ?_
  refine a_hp (fun h59 eh59 => ?_)
  have hf := zlet_n eh59 hf
  obtain ⟨hk61, hf⟩ := zite hf
  refine a_putFR X hin rfl zf12 hk61 29 (by decide) w_f_RX12_49 rfl rfl rfl dX12_init_103 ?_
  refine a_hp (fun h62 eh62 => ?_)
  have hf := zlet_n eh62 hf
  refine a_aload_n X 0 dX12_init_106 rfl ?_
  refine a_sipush X (v := 2000) dX12_init_107 (by decide) ?_
  obtain ⟨hn65, hf⟩ := zite hf
  obtain ⟨hc63, hf⟩ := zite hf
  refine a_newa0 X r hn65 hc63 w_ac_int dX12_init_110 ?_
  refine a_hp (fun h64 eh64 => ?_)
  have hf := zlet_n eh64 hf
  obtain ⟨hk66, hf⟩ := zite hf
  refine a_putFR X hin rfl zf12 hk66 30 (by decide) w_f_RX12_52 rfl rfl rfl dX12_init_112 ?_
  refine a_hp (fun h67 eh67 => ?_)
  have hf := zlet_n eh67 hf
  refine a_aload_n X 0 dX12_init_115 rfl ?_
  refine a_sipush X (v := 2000) dX12_init_116 (by decide) ?_
  obtain ⟨hn70, hf⟩ := zite hf
  obtain ⟨hc68, hf⟩ := zite hf
  refine a_newa0 X r hn70 hc68 w_ac_int dX12_init_119 ?_
  refine a_hp (fun h69 eh69 => ?_)
  have hf := zlet_n eh69 hf
  obtain ⟨hk71, hf⟩ := zite hf
  refine a_putFR X hin rfl zf12 hk71 31 (by decide) w_f_RX12_55 rfl rfl rfl dX12_init_121 ?_
  refine a_hp (fun h72 eh72 => ?_)
  have hf := zlet_n eh72 hf
  refine a_aload_n X 0 dX12_init_124 rfl ?_
  refine a_sipush X (v := 2000) dX12_init_125 (by decide) ?_
  obtain ⟨hn75, hf⟩ := zite hf
  obtain ⟨hc73, hf⟩ := zite hf
  refine a_newa3 X r hn75 hc73 w_ac_boolean dX12_init_128 ?_
  refine a_hp (fun h74 eh74 => ?_)
  have hf := zlet_n eh74 hf
  obtain ⟨hk76, hf⟩ := zite hf
  refine a_putFR X hin rfl zf12 hk76 32 (by decide) w_f_RX12_58 rfl rfl rfl dX12_init_130 ?_
  refine a_hp (fun h77 eh77 => ?_)
  have hf := zlet_n eh77 hf
  refine a_aload_n X 0 dX12_init_133 rfl ?_
  refine a_sipush X (v := 300) dX12_init_134 (by decide) ?_
  obtain ⟨hn80, hf⟩ := zite hf
  obtain ⟨hc78, hf⟩ := zite hf
  refine a_newa0 X r hn80 hc78 w_ac_int dX12_init_137 ?_
  refine a_hp (fun h79 eh79 => ?_)
  have hf := zlet_n eh79 hf
  obtain ⟨hk81, hf⟩ := zite hf
  refine a_putFR X hin rfl zf12 hk81 33 (by decide) w_f_RX12_62 rfl rfl rfl dX12_init_139 ?_
  refine a_hp (fun h82 eh82 => ?_)
  have hf := zlet_n eh82 hf
  refine a_aload_n X 0 dX12_init_142 rfl ?_
  refine a_sipush X (v := 1920) dX12_init_143 (by decide) ?_
  obtain ⟨hn85, hf⟩ := zite hf
  obtain ⟨hc83, hf⟩ := zite hf
  refine a_newa0 X r hn85 hc83 w_ac_int dX12_init_146 ?_
  refine a_hp (fun h84 eh84 => ?_)
  have hf := zlet_n eh84 hf
  obtain ⟨hk86, hf⟩ := zite hf
  refine a_putFR X hin rfl zf12 hk86 34 (by decide) w_f_RX12_65 rfl rfl rfl dX12_init_148 ?_
  refine a_hp (fun h87 eh87 => ?_)
  have hf := zlet_n eh87 hf
  refine a_aload_n X 0 dX12_init_151 rfl ?_
  refine a_bipush X (v := 20) dX12_init_152 (by decide) ?_
  obtain ⟨hn90, hf⟩ := zite hf
  obtain ⟨hc88, hf⟩ := zite hf
  refine a_newa0 X r hn90 hc88 w_ac_int dX12_init_154 ?_
  refine a_hp (fun h89 eh89 => ?_)
  have hf := zlet_n eh89 hf
  obtain ⟨hk91, hf⟩ := zite hf
  refine a_putFR X hin rfl zf12 hk91 37 (by decide) w_f_RX12_68 rfl rfl rfl dX12_init_156 ?_
  refine a_hp (fun h92 eh92 => ?_)
  have hf := zlet_n eh92 hf
  refine a_aload_n X 0 dX12_init_159 rfl ?_
  refine a_bipush X (v := 20) dX12_init_160 (by decide) ?_
  obtain ⟨hn95, hf⟩ := zite hf
  obtain ⟨hc93, hf⟩ := zite hf
  refine a_newa0 X r hn95 hc93 w_ac_int dX12_init_162 ?_
  refine a_hp (fun h94 eh94 => ?_)
  have hf := zlet_n eh94 hf
  obtain ⟨hk96, hf⟩ := zite hf
  refine a_putFR X hin rfl zf12 hk96 38 (by decide) w_f_RX12_71 rfl rfl rfl dX12_init_164 ?_
  refine a_hp (fun h97 eh97 => ?_)
  have hf := zlet_n eh97 hf
  refine a_aload_n X 0 dX12_init_167 rfl ?_
  refine a_bipush X (v := 60) dX12_init_168 (by decide) ?_
  obtain ⟨hn100, hf⟩ := zite hf
  obtain ⟨hc98, hf⟩ := zite hf
  refine a_newa0 X r hn100 hc98 w_ac_int dX12_init_170 ?_
  refine a_hp (fun h99 eh99 => ?_)
  have hf := zlet_n eh99 hf
  obtain ⟨hk101, hf⟩ := zite hf
  refine a_putFR X hin rfl zf12 hk101 39 (by decide) w_f_RX12_74 rfl rfl rfl dX12_init_172 ?_
  refine a_hp (fun h102 eh102 => ?_)
  have hf := zlet_n eh102 hf
  refine a_aload_n X 0 dX12_init_175 rfl ?_
  refine a_bipush X (v := 60) dX12_init_176 (by decide) ?_
  obtain ⟨hn105, hf⟩ := zite hf
  obtain ⟨hc103, hf⟩ := zite hf
  refine a_newa0 X r hn105 hc103 w_ac_int dX12_init_178 ?_
  refine a_hp (fun h104 eh104 => ?_)
  have hf := zlet_n eh104 hf
  obtain ⟨hk106, hf⟩ := zite hf
  refine a_putFR X hin rfl zf12 hk106 40 (by decide) w_f_RX12_77 rfl rfl rfl dX12_init_180 ?_
  refine a_hp (fun h107 eh107 => ?_)
  have hf := zlet_n eh107 hf
  refine a_aload_n X 0 dX12_init_183 rfl ?_
  refine a_iconst X (v := 3) dX12_init_184 (by decide) ?_
  obtain ⟨hn110, hf⟩ := zite hf
  obtain ⟨hc108, hf⟩ := zite hf
  refine a_newa0 X r hn110 hc108 w_ac_int dX12_init_185 ?_
  refine a_hp (fun h109 eh109 => ?_)
  have hf := zlet_n eh109 hf
  obtain ⟨hk111, hf⟩ := zite hf
  refine a_putFR X hin rfl zf12 hk111 41 (by decide) w_f_RX12_80 rfl rfl rfl dX12_init_187 ?_
  refine a_hp (fun h112 eh112 => ?_)
  have hf := zlet_n eh112 hf
  refine a_aload_n X 0 dX12_init_190 rfl ?_
  refine a_iconst X (v := 3) dX12_init_191 (by decide) ?_
  obtain ⟨hn115, hf⟩ := zite hf
  obtain ⟨hc113, hf⟩ := zite hf
  refine a_newa0 X r hn115 hc113 w_ac_int dX12_init_192 ?_
  refine a_hp (fun h114 eh114 => ?_)
  have hf := zlet_n eh114 hf
  obtain ⟨hk116, hf⟩ := zite hf
  refine a_putFR X hin rfl zf12 hk116 42 (by decide) w_f_RX12_83 rfl rfl rfl dX12_init_194 ?_
  refine a_hp (fun h117 eh117 => ?_)
  have hf := zlet_n eh117 hf
  cases hf
  exact a_vret X hr dX12_init_197

set_option maxHeartbeats 4000000 in
set_option maxRecDepth 100000 in
theorem sX12_trick {l : Launch} {D : va_G} {cA : Nat → ClassId} {base : Nat} {sA : Nat → Nat} {r0 : Nat} {x1 : Int32} {h hE : Zh} {rE : Int32} (hf : fX12_trick r0 x1 h = some (rE, hE)) : zCA l yX12_trick cX12_trick 3 (some .int) 11 239 D cA base sA [.ref (base + r0), .int x1] h (some (.int rE)) hE := by
  refine a_entry RX12 (by decide) rfl (Nat.le_of_ble_eq_true rfl) ?_
  intro p e R s m args below meth c hRf hRl r hin X hr
  unfold fX12_trick at hf
  have hf := zlet_n (x := h) rfl hf
  show zGA p l e R s m args below meth c (MQ below (zQA D cA base h hE (some (.int rE))) args s (zNC - zN h) (zNS - zS h) (zA base)) 3 D cA base h 0 [(0, .ref (base + r0)), (1, .int x1)] [] h
  refine a_aload_n X 0 dX12_trick_0 rfl ?_
  refine a_iconst X (v := 0) dX12_trick_1 (by decide) ?_
  obtain ⟨hk1, hf⟩ := zite hf
  refine a_putI X zf12 hk1 0 (by decide) w_f_RX12_86 rfl rfl rfl dX12_trick_2 ?_
  refine a_hp (fun h2 eh2 => ?_)
  have hf := zlet_n eh2 hf
  refine a_iload_n X 1 dX12_trick_5 rfl ?_
  refine a_if_lt X 17 dX12_trick_6 (by decide) (fun hq => ?_) (fun hq => ?_)
  · have hf := zpos hq hf
    refine a_aload_n X 0 dX12_trick_17 rfl ?_
    refine a_iconst X (v := 2) dX12_trick_18 (by decide) ?_
    obtain ⟨hk3, hf⟩ := zite hf
    obtain ⟨v5, h4, hch4, hf⟩ := zc2_e hf
    refine a_callV X r 1 (sX12_refused hch4) zf12 hk3 ydX12_refused w_ml_RX12_92 w_instanceMethod_X12_refused w_sel_X12_refused w_ini_RX12 w_code_X12_refused (by rw [hRf, hRl]; decide) rfl (st := []) rfl rfl (Nat.le_of_ble_eq_true rfl) dX12_trick_19 ?_
    obtain ⟨rfl, rfl⟩ := zsm hf
    exact a_iret X hr dX12_trick_22
  · have hf := zneg hq hf
    refine a_iload_n X 1 dX12_trick_9 rfl ?_
    refine a_aload_n X 0 dX12_trick_10 rfl ?_
    obtain ⟨hk6, hf⟩ := zite hf
    refine a_get X zf12 hk6 6 (by decide) w_f_RX12_322 rfl rfl dX12_trick_11 ?_
    refine a_icmp_le X 23 dX12_trick_14 (by decide) (fun hq => ?_) (fun hq => ?_)
    · have hf := zpos hq hf
      refine a_aload_n X 0 dX12_trick_23 rfl ?_
      refine a_iload_n X 1 dX12_trick_24 rfl ?_
      refine a_putI X zf12 hk6 7 (by decide) w_f_RX12_103 rfl rfl rfl dX12_trick_25 ?_
      refine a_hp (fun h7 eh7 => ?_)
      have hf := zlet_n eh7 hf
      refine a_aload_n X 0 dX12_trick_28 rfl ?_
      refine a_iconst X (v := 0) dX12_trick_29 (by decide) ?_
      obtain ⟨hk8, hf⟩ := zite hf
      refine a_putI X zf12 hk8 6 (by decide) w_f_RX12_322 rfl rfl rfl dX12_trick_30 ?_
      refine a_hp (fun h9 eh9 => ?_)
      have hf := zlet_n eh9 hf
      refine a_aload_n X 0 dX12_trick_33 rfl ?_
      refine a_iconst X (v := 0) dX12_trick_34 (by decide) ?_
      obtain ⟨hk10, hf⟩ := zite hf
      refine a_putI X zf12 hk10 8 (by decide) w_f_RX12_121 rfl rfl rfl dX12_trick_35 ?_
      refine a_hp (fun h11 eh11 => ?_)
      have hf := zlet_n eh11 hf
      refine a_aload_n X 0 dX12_trick_38 rfl ?_
      refine a_iconst X (v := 0) dX12_trick_39 (by decide) ?_
      obtain ⟨hk12, hf⟩ := zite hf
      refine a_putI X zf12 hk12 13 (by decide) w_f_RX12_147 rfl rfl rfl dX12_trick_40 ?_
      refine a_hp (fun h13 eh13 => ?_)
      have hf := zlet_n eh13 hf
      refine a_aload_n X 0 dX12_trick_43 rfl ?_
      obtain ⟨hc14, hf⟩ := zite hf
      refine a_new X r zf11 zq11 hc14 w_cl_RX12_195 w_in_RX11 w_ini_RX11 dX12_trick_44 ?_
      refine a_hp (fun h15 eh15 => ?_)
      have hf := zlet_n eh15 hf
      refine a_dup X dX12_trick_47 rfl ?_
      obtain ⟨h16, hch16, hf⟩ := zbd hf
      refine a_callIN X r 0 (sX11_init hch16) rfl yiX11_init w_mn_RX12_325 w_instanceMethod_X11_init w_ini_RX11 w_code_X11_init (by rw [hRf, hRl]; decide) rfl (st := [.ref (base + (zN h13)), .ref (base + r0)]) rfl (Nat.le_of_ble_eq_true rfl) dX12_trick_48 ?_
      obtain ⟨hk17, hf⟩ := zite hf
      refine a_putR X zf12 hk17 4 (by decide) w_f_RX12_190 rfl rfl rfl dX12_trick_51 ?_
      refine a_hp (fun h18 eh18 => ?_)
      have hf := zlet_n eh18 hf
      refine a_aload_n X 0 dX12_trick_54 rfl ?_
      refine a_iconst X (v := 0) dX12_trick_55 (by decide) ?_
      obtain ⟨hk19, hf⟩ := zite hf
      refine a_putI X zf12 hk19 9 (by decide) w_f_RX12_118 rfl rfl rfl dX12_trick_56 ?_
      refine a_hp (fun h20 eh20 => ?_)
      have hf := zlet_n eh20 hf
      refine a_aload_n X 0 dX12_trick_59 rfl ?_
      obtain ⟨hk21, hf⟩ := zite hf
      obtain ⟨h22, hch22, hf⟩ := zbd hf
      refine a_callV X r 0 (sX12_goesOn hch22) zf12 hk21 ydX12_goesOn w_ml_RX12_161 w_instanceMethod_X12_goesOn w_sel_X12_goesOn w_ini_RX12 w_code_X12_goesOn (by rw [hRf, hRl]; decide) rfl (st := []) rfl rfl (Nat.le_of_ble_eq_true rfl) dX12_trick_60 ?_
      refine a_aload_n X 0 dX12_trick_63 rfl ?_
      obtain ⟨hk23, hf⟩ := zite hf
      obtain ⟨h24, hch24, hf⟩ := zbd hf
      refine a_callV X r 0 (sX12_readAll hch24) zf12 hk23 ydX12_readAll w_ml_RX12_326 w_instanceMethod_X12_readAll w_sel_X12_readAll w_ini_RX12 w_code_X12_readAll (by rw [hRf, hRl]; decide) rfl (st := []) rfl rfl (Nat.le_of_ble_eq_true rfl) dX12_trick_64 ?_
      refine a_aload_n X 0 dX12_trick_67 rfl ?_
      obtain ⟨hk25, hf⟩ := zite hf
      refine a_get X zf12 hk25 13 (by decide) w_f_RX12_147 rfl rfl dX12_trick_68 ?_
      refine a_if_le X 89 dX12_trick_71 (by decide) (fun hq => ?_) (fun hq => ?_)
      · have hf := zpos hq hf
        refine a_aload_n X 0 dX12_trick_89 rfl ?_
        refine a_aload_n X 0 dX12_trick_90 rfl ?_
        obtain ⟨r_26, hr_26, hf⟩ := zbd hf
        refine a_get X zf12 hk25 4 (by decide) w_f_RX12_190 rfl (zfv_r hr_26 rfl) dX12_trick_91 ?_
        refine a_putR X zf12 hk25 3 (by decide) w_f_RX12_329 rfl rfl rfl dX12_trick_94 ?_
        refine a_hp (fun h27 eh27 => ?_)
        have hf := zlet_n eh27 hf
        refine a_aload_n X 0 dX12_trick_97 rfl ?_
        refine a_iconst X (v := 0) dX12_trick_98 (by decide) ?_
        obtain ⟨hk28, hf⟩ := zite hf
        refine a_putI X zf12 hk28 45 (by decide) w_f_RX12_331 rfl rfl rfl dX12_trick_99 ?_
        refine a_hp (fun h29 eh29 => ?_)
        have hf := zlet_n eh29 hf
        refine a_aload_n X 0 dX12_trick_102 rfl ?_
        refine a_iconst X (v := 0) dX12_trick_103 (by decide) ?_
        obtain ⟨hk30, hf⟩ := zite hf
        refine a_putI X zf12 hk30 44 (by decide) w_f_RX12_334 rfl rfl rfl dX12_trick_104 ?_
        refine a_hp (fun h31 eh31 => ?_)
        have hf := zlet_n eh31 hf
        refine a_aload_n X 0 dX12_trick_107 rfl ?_
        obtain ⟨hk32, hf⟩ := zite hf
        obtain ⟨h33, hch33, hf⟩ := zbd hf
        refine a_callV X r 0 (sX12_deals hch33) zf12 hk32 ydX12_deals w_ml_RX12_337 w_instanceMethod_X12_deals w_sel_X12_deals w_ini_RX12 w_code_X12_deals (by rw [hRf, hRl]; decide) rfl (st := []) rfl rfl (Nat.le_of_ble_eq_true rfl) dX12_trick_108 ?_
        refine a_aload_n X 0 dX12_trick_111 rfl ?_
        obtain ⟨hk34, hf⟩ := zite hf
        obtain ⟨h35, hch35, hf⟩ := zbd hf
        refine a_callV X r 0 (sX12_laysCodes hch35) zf12 hk34 ydX12_laysCodes w_ml_RX12_340 w_instanceMethod_X12_laysCodes w_sel_X12_laysCodes w_ini_RX12 w_code_X12_laysCodes (by rw [hRf, hRl]; decide) rfl (st := []) rfl rfl (Nat.le_of_ble_eq_true rfl) dX12_trick_112 ?_
        refine a_aload_n X 0 dX12_trick_115 rfl ?_
        refine a_iconst X (v := 0) dX12_trick_116 (by decide) ?_
        obtain ⟨hk36, hf⟩ := zite hf
        refine a_putZ X zf12 hk36 (Or.inl rfl) 35 (by decide) w_f_RX12_343 rfl rfl rfl dX12_trick_117 ?_
        refine a_hp (fun h37 eh37 => ?_)
        have hf := zlet_n eh37 hf
        refine a_aload_n X 0 dX12_trick_120 rfl ?_
        refine a_aload_n X 0 dX12_trick_121 rfl ?_
        obtain ⟨hk38, hf⟩ := zite hf
        obtain ⟨r_39, hr_39, hf⟩ := zbd hf
        refine a_get X zf12 hk38 3 (by decide) w_f_RX12_329 rfl (zfv_r hr_39 rfl) dX12_trick_122 ?_
        obtain ⟨hk40, hf⟩ := zite hf
        refine a_getN X zf11 hk40 6 (by decide) w_fn_RX12_305 rfl rfl dX12_trick_125 ?_
        refine a_putI X zf12 hk38 43 (by decide) w_f_RX12_346 rfl rfl rfl dX12_trick_128 ?_
        refine a_hp (fun h41 eh41 => ?_)
        have hf := zlet_n eh41 hf
        refine a_iconst X (v := 0) dX12_trick_131 (by decide) ?_
        refine a_istore_n X [(2, .int ((0 : Int32))), (0, .ref (base + r0)), (1, .int x1)] dX12_trick_132 (by decide) rfl ?_
        refine a_sub [1, 0] rfl ?_
        obtain ⟨qq, hlp, hf⟩ := zbd hf
        refine lp_snd (body := (fun q : Int32 × Zh => bX12_trick_133 h r0 q.1 q.2)) (P := (fun q : Int32 × Zh => zGA p l e R s m args below meth c (MQ below (zQA D cA base h hE (some (.int rE))) args s (zNC - zN h) (zNS - zS h) (zA base)) 3 D cA base h 133 [(0, .ref (base + r0)), (2, .int q.1)] [] q.2)) (E := (fun (en : Nat) (q : Int32 × Zh) => zGA p l e R s m args below meth c (MQ below (zQA D cA base h hE (some (.int rE))) args s (zNC - zN h) (zNS - zS h) (zA base)) 3 D cA base h 205 [(0, .ref (base + r0))] [] q.2)) ?_ zB ((0 : Int32), h41) qq.1 qq.2 hlp ?_
        · intro q e_133 q_133 hf hc0 hc1
          obtain ⟨x2_133, h_133⟩ := q
          have hf : bX12_trick_133 h r0 x2_133 h_133 = some (e_133, q_133) := hf
          unfold bX12_trick_133 at hf
          show zGA p l e R s m args below meth c (MQ below (zQA D cA base h hE (some (.int rE))) args s (zNC - zN h) (zNS - zS h) (zA base)) 3 D cA base h 133 [(0, .ref (base + r0)), (2, .int x2_133)] [] h_133
          refine a_iload_n X 1 dX12_trick_133 rfl ?_
          refine a_aload_n X 0 dX12_trick_134 rfl ?_
          obtain ⟨hk42, hf⟩ := zite hf
          refine a_get X zf12 hk42 43 (by decide) w_f_RX12_346 rfl rfl dX12_trick_135 ?_
          refine a_icmp_ge X 205 dX12_trick_138 (by decide) (fun hq => ?_) (fun hq => ?_)
          · have hf := zpos hq hf
            cases hf
            have hc1 := hc1 (by decide)
            exact a_sub [0] rfl hc1
          · have hf := zneg hq hf
            refine a_aload_n X 0 dX12_trick_141 rfl ?_
            obtain ⟨r_43, hr_43, hf⟩ := zbd hf
            refine a_get X zf12 hk42 37 (by decide) w_f_RX12_68 rfl (zfv_r hr_43 rfl) dX12_trick_142 ?_
            refine a_iload_n X 1 dX12_trick_145 rfl ?_
            refine a_aload_n X 0 dX12_trick_146 rfl ?_
            refine a_aload_n X 0 dX12_trick_147 rfl ?_
            obtain ⟨r_44, hr_44, hf⟩ := zbd hf
            refine a_get X zf12 hk42 3 (by decide) w_f_RX12_329 rfl (zfv_r hr_44 rfl) dX12_trick_148 ?_
            obtain ⟨hk45, hf⟩ := zite hf
            obtain ⟨r_46, hr_46, hf⟩ := zbd hf
            refine a_getN X zf11 hk45 11 (by decide) w_fn_RX12_308 rfl (zfv_r hr_46 rfl) dX12_trick_151 ?_
            refine a_iconst X (v := 5) dX12_trick_154 (by decide) ?_
            refine a_iload_n X 1 dX12_trick_155 rfl ?_
            refine a_imul X dX12_trick_156 ?_
            obtain ⟨v48, h47, hch47, hf⟩ := zc2_e hf
            refine a_callV X r 2 (sX12_handNumber hch47) zf12 hk42 ydX12_handNumber w_ml_RX12_347 w_instanceMethod_X12_handNumber w_sel_X12_handNumber w_ini_RX12 w_code_X12_handNumber (by rw [hRf, hRl]; decide) rfl (st := [.int x2_133, .ref (base + r_43)]) rfl rfl (Nat.le_of_ble_eq_true rfl) dX12_trick_157 ?_
            obtain ⟨hk49, hf⟩ := zite hf
            obtain ⟨hi50, hf⟩ := zite hf
            refine a_iast X hk49 hi50 dX12_trick_160 ?_
            refine a_hp (fun h51 eh51 => ?_)
            have hf := zlet_n eh51 hf
            refine a_aload_n X 0 dX12_trick_161 rfl ?_
            obtain ⟨hk52, hf⟩ := zite hf
            obtain ⟨r_53, hr_53, hf⟩ := zbd hf
            refine a_get X zf12 hk52 38 (by decide) w_f_RX12_71 rfl (zfv_r hr_53 rfl) dX12_trick_162 ?_
            refine a_iload_n X 1 dX12_trick_165 rfl ?_
            refine a_aload_n X 0 dX12_trick_166 rfl ?_
            refine a_aload_n X 0 dX12_trick_167 rfl ?_
            obtain ⟨r_54, hr_54, hf⟩ := zbd hf
            refine a_get X zf12 hk52 3 (by decide) w_f_RX12_329 rfl (zfv_r hr_54 rfl) dX12_trick_168 ?_
            obtain ⟨hk55, hf⟩ := zite hf
            obtain ⟨r_56, hr_56, hf⟩ := zbd hf
            refine a_getN X zf11 hk55 12 (by decide) w_fn_RX12_315 rfl (zfv_r hr_56 rfl) dX12_trick_171 ?_
            refine a_iconst X (v := 5) dX12_trick_174 (by decide) ?_
            refine a_iload_n X 1 dX12_trick_175 rfl ?_
            refine a_imul X dX12_trick_176 ?_
            obtain ⟨v58, h57, hch57, hf⟩ := zc2_e hf
            refine a_callV X r 2 (sX12_rowNumber hch57) zf12 hk52 ydX12_rowNumber w_ml_RX12_351 w_instanceMethod_X12_rowNumber w_sel_X12_rowNumber w_ini_RX12 w_code_X12_rowNumber (by rw [hRf, hRl]; decide) rfl (st := [.int x2_133, .ref (base + r_53)]) rfl rfl (Nat.le_of_ble_eq_true rfl) dX12_trick_177 ?_
            refine a_aload_n X 0 dX12_trick_180 rfl ?_
            obtain ⟨hk59, hf⟩ := zite hf
            obtain ⟨r_60, hr_60, hf⟩ := zbd hf
            refine a_get X zf12 hk59 3 (by decide) w_f_RX12_329 rfl (zfv_r hr_60 rfl) dX12_trick_181 ?_
            obtain ⟨hk61, hf⟩ := zite hf
            obtain ⟨v63, h62, hch62, hf⟩ := zc2_e hf
            refine a_callV X r 0 (sX11_tilts hch62) zf11 hk61 ydX11_tilts w_ml_RX12_354 w_instanceMethod_X11_tilts w_sel_X11_tilts w_ini_RX11 w_code_X11_tilts (by rw [hRf, hRl]; decide) rfl (st := [.int v58, .int x2_133, .ref (base + r_53)]) rfl rfl (Nat.le_of_ble_eq_true rfl) dX12_trick_184 ?_
            refine a_imul X dX12_trick_187 ?_
            refine a_aload_n X 0 dX12_trick_188 rfl ?_
            obtain ⟨hk64, hf⟩ := zite hf
            obtain ⟨r_65, hr_65, hf⟩ := zbd hf
            refine a_get X zf12 hk64 3 (by decide) w_f_RX12_329 rfl (zfv_r hr_65 rfl) dX12_trick_189 ?_
            obtain ⟨hk66, hf⟩ := zite hf
            obtain ⟨r_67, hr_67, hf⟩ := zbd hf
            refine a_getN X zf11 hk66 13 (by decide) w_fn_RX12_319 rfl (zfv_r hr_67 rfl) dX12_trick_192 ?_
            refine a_iload_n X 1 dX12_trick_195 rfl ?_
            obtain ⟨hk68, hf⟩ := zite hf
            obtain ⟨hi69, hf⟩ := zite hf
            refine a_iald X hk68 hi69 dX12_trick_196 ?_
            refine a_iadd X dX12_trick_197 ?_
            obtain ⟨hk70, hf⟩ := zite hf
            obtain ⟨hi71, hf⟩ := zite hf
            refine a_iast X hk70 hi71 dX12_trick_198 ?_
            refine a_hp (fun h72 eh72 => ?_)
            have hf := zlet_n eh72 hf
            obtain ⟨y73, ey73⟩ : ∃ y : Int32, y = x2_133 + (1 : Int32) := ⟨_, rfl⟩
            have hf := zlet_n ey73 hf
            refine a_iinc X (j := 1) [(2, .int y73), (0, .ref (base + r0))] dX12_trick_199 rfl (by rw [ey73]; rfl) (by decide) rfl ?_
            refine a_goto X 133 dX12_trick_202 (by decide) ?_
            cases hf
            exact a_sub [1, 0] rfl (hc0 rfl)
        · obtain ⟨ee, x2_k133, h_k133⟩ := qq
          have hf : kX12_trick_133 h r0 ee x2_k133 h_k133 = some (rE, hE) := hf
          unfold kX12_trick_133 at hf
          show zGA p l e R s m args below meth c (MQ below (zQA D cA base h hE (some (.int rE))) args s (zNC - zN h) (zNS - zS h) (zA base)) 3 D cA base h 205 [(0, .ref (base + r0))] [] h_k133
          refine a_aload_n X 0 dX12_trick_205 rfl ?_
          refine a_aload_n X 0 dX12_trick_206 rfl ?_
          obtain ⟨hk74, hf⟩ := zite hf
          obtain ⟨r_75, hr_75, hf⟩ := zbd hf
          refine a_get X zf12 hk74 3 (by decide) w_f_RX12_329 rfl (zfv_r hr_75 rfl) dX12_trick_207 ?_
          obtain ⟨hk76, hf⟩ := zite hf
          refine a_getN X zf11 hk76 5 (by decide) w_fn_RX12_259 rfl rfl dX12_trick_210 ?_
          obtain ⟨v78, h77, hch77, hf⟩ := zc2_e hf
          refine a_callV X r 1 (sX12_good hch77) zf12 hk74 ydX12_good w_ml_RX12_96 w_instanceMethod_X12_good w_sel_X12_good w_ini_RX12 w_code_X12_good (by rw [hRf, hRl]; decide) rfl (st := []) rfl rfl (Nat.le_of_ble_eq_true rfl) dX12_trick_213 ?_
          obtain ⟨rfl, rfl⟩ := zsm hf
          exact a_iret X hr dX12_trick_216
      · have hf := zneg hq hf
        refine a_aload_n X 0 dX12_trick_74 rfl ?_
        refine a_iconst X (v := 4) dX12_trick_75 (by decide) ?_
        refine a_putI X zf12 hk25 1 (by decide) w_f_RX12_89 rfl rfl rfl dX12_trick_76 ?_
        refine a_hp (fun h79 eh79 => ?_)
        have hf := zlet_n eh79 hf
        refine a_aload_n X 0 dX12_trick_79 rfl ?_
        refine a_aload_n X 0 dX12_trick_80 rfl ?_
        obtain ⟨hk80, hf⟩ := zite hf
        refine a_get X zf12 hk80 14 (by decide) w_f_RX12_150 rfl rfl dX12_trick_81 ?_
        refine a_putI X zf12 hk80 2 (by decide) w_f_RX12_9 rfl rfl rfl dX12_trick_84 ?_
        refine a_hp (fun h81 eh81 => ?_)
        have hf := zlet_n eh81 hf
        refine a_iconst X (v := -1) dX12_trick_87 (by decide) ?_
        obtain ⟨rfl, rfl⟩ := zsm hf
        exact a_iret X hr dX12_trick_88
    · have hf := zneg hq hf
      refine a_aload_n X 0 dX12_trick_17 rfl ?_
      refine a_iconst X (v := 2) dX12_trick_18 (by decide) ?_
      obtain ⟨v83, h82, hch82, hf⟩ := zc2_e hf
      refine a_callV X r 1 (sX12_refused hch82) zf12 hk6 ydX12_refused w_ml_RX12_92 w_instanceMethod_X12_refused w_sel_X12_refused w_ini_RX12 w_code_X12_refused (by rw [hRf, hRl]; decide) rfl (st := []) rfl rfl (Nat.le_of_ble_eq_true rfl) dX12_trick_19 ?_
      obtain ⟨rfl, rfl⟩ := zsm hf
      exact a_iret X hr dX12_trick_22

