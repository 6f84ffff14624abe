/-! FifthCard Reader readKind -/
def fX7_readKind (r0 : Nat) (h : Zh) : Option (Int32 × Zh) := zlet h fun g =>
  if zK g r0 = 7 then zc2 (fX7_is r0 13 h) fun v3 h2 => if v3 = 0 then zc2 (fX7_is r0 14 h2) fun v5 h4 => if v5 = 0 then zc2 (fX7_pass r0 15 h4) fun v7 h6 => if v7 = 0 then some ((-1 : Int32), h6) else zc2 (fX7_keepWord r0 h6) fun v9 h8 => if 0 ≤ v9 then (fX7_step r0 h8).bind fun h10 => zc2 (fX7_pass r0 20 h10) fun v12 h11 => if v12 = 0 then some ((-1 : Int32), h11) else zc2 (fX7_tellWord r0 h11) fun v14 h13 => if 0 ≤ v14 then (fX7_step r0 h13).bind fun h15 => some ((((5 : Int32)) * v9) + v14, h15) else zc2 (fX7_fail r0 ((1 : Int32)) h13) fun v17 h16 => some ((-1 : Int32), h16) else zc2 (fX7_fail r0 ((1 : Int32)) h8) fun v19 h18 => some ((-1 : Int32), h18) else (fX7_step r0 h4).bind fun h20 => some ((21 : Int32), h20) else (fX7_step r0 h2).bind fun h21 => some ((20 : Int32), h21) else none
/-! FifthCard Reader readRule -/
def fX7_readRule (r0 : Nat) (h : Zh) : Option (Int32 × Zh) := zlet h fun g =>
  if zK g r0 = 7 then (zR h r0 4).bind fun r_2 => if zK g r_2 = 9 then if (zI h r_2 0) = 0 then zc2 (fX7_fail r0 ((6 : Int32)) h) fun v26 h25 => if v26 = 0 ∨ v26 = 1 then some (v26, h25) else none else (zR h r0 4).bind fun r_4 => if zK g r_4 = 9 then if (zI h r_4 3) < ((4 : Int32)) then (fX7_step r0 h).bind fun h6 => zc2 (fX7_readName r0 h6) fun v8 h7 => if v8 = 0 then some ((0 : Int32), h7) else zc2 (fX7_readKind r0 h7) fun v10 h9 => if 0 ≤ v10 then (zR h9 r0 4).bind fun r_11 => if zK g r_11 = 9 then (zR h9 r_11 2).bind fun r_13 => (zR h9 r0 4).bind fun r_14 => if zK g r_14 = 9 then if zK g r_13 = 100 then if zin (zI h9 r_14 3) (zL g r_13) then zlet (zsI h9 r_13 (zI h9 r_14 3).toNatClampNeg v10) fun h18 => (zR h18 r0 4).bind fun r_19 => if zK g r_19 = 9 then zlet (zsI h18 r_19 3 ((zI h18 r_19 3) + ((1 : Int32)))) fun h21 => some ((1 : Int32), h21) else none else none else none else none else none else some ((0 : Int32), h9) else zc2 (fX7_fail r0 ((5 : Int32)) h) fun v23 h22 => if v23 = 0 ∨ v23 = 1 then some (v23, h22) else none else none else none else none
/-! FifthCard Reader readEvening -/
def jX7_readEvening_152 (g : Zh) (r0 : Nat) (x2 : Int32) (x3 : Int32) (x4 : Int32) (h : Zh) : Option (Int32 × Zh) :=
  (zR h r0 4).bind fun r_26 => if zK g r_26 = 9 then (zR h r_26 4).bind fun r_28 => if zK g r_28 = 1 then (fX1_add r_28 x2 (x3 + x4) h).bind fun h30 => some ((1 : Int32), h30) else none else none
def fX7_readEvening (r0 : Nat) (h : Zh) : Option (Int32 × Zh) := zlet h fun g =>
  if zK g r0 = 7 then (zR h r0 4).bind fun r_2 => if zK g r_2 = 9 then if (zI h r_2 0) = 0 then zc2 (fX7_fail r0 ((6 : Int32)) h) fun v40 h39 => if v40 = 0 ∨ v40 = 1 then some (v40, h39) else none else (zR h r0 4).bind fun r_4 => if zK g r_4 = 9 then (zR h r_4 4).bind fun r_6 => if zK g r_6 = 1 then if (zI h r_6 2) < ((9 : Int32)) then (fX7_step r0 h).bind fun h8 => (zR h8 r0 4).bind fun r_9 => if zK g r_9 = 9 then (zR h8 r_9 1).bind fun r_11 => if zK g r_11 = 0 then zc2 (fX7_readCards r0 (zI h8 r_11 3) h8) fun v14 h13 => if v14 = 0 then some ((0 : Int32), h13) else (zR h13 r0 7).bind fun r_15 => zc2 (fX0_handNumber r_11 r_15 h13) fun v17 h16 => zc2 (fX7_pass r0 11 h16) fun v19 h18 => if v19 = 0 then some ((0 : Int32), h18) else zc2 (fX7_readCards r0 (zI h18 r_11 5) h18) fun v21 h20 => if v21 = 0 then some ((0 : Int32), h20) else (zR h20 r0 7).bind fun r_22 => zc2 (fX0_rowNumber r_11 r_22 (zI h20 r_11 5) h20) fun v24 h23 => zlet (v24 * (zI h23 r_11 12)) fun y25 => if (zI h23 r_11 8) = 0 then jX7_readEvening_152 g r0 v17 y25 ((0 : Int32)) h23 else zc2 (fX7_is r0 12 h23) fun v32 h31 => if v32 = 0 then jX7_readEvening_152 g r0 v17 y25 ((0 : Int32)) h31 else (fX7_step r0 h31).bind fun h33 => zc2 (fX7_readTilts r0 (zI h33 r_11 5) h33) fun v35 h34 => if 0 ≤ v35 then jX7_readEvening_152 g r0 v17 y25 v35 h34 else some ((0 : Int32), h34) else none else none else zc2 (fX7_fail r0 ((5 : Int32)) h) fun v37 h36 => if v37 = 0 ∨ v37 = 1 then some (v37, h36) else none else none else none else none else none
/-! FifthCard Reader readLine -/
def fX7_readLine (r0 : Nat) (h : Zh) : Option (Int32 × Zh) := zlet h fun g =>
  if zK g r0 = 7 then zc2 (fX7_is r0 0 h) fun v3 h2 => if v3 = 0 then zc2 (fX7_is r0 9 h2) fun v5 h4 => if v5 = 0 then zc2 (fX7_is r0 10 h4) fun v7 h6 => if v7 = 0 then zc2 (fX7_fail r0 ((1 : Int32)) h6) fun v9 h8 => if v9 = 0 ∨ v9 = 1 then some (v9, h8) else none else zc2 (fX7_readEvening r0 h6) fun v12 h11 => if v12 = 0 ∨ v12 = 1 then some (v12, h11) else none else zc2 (fX7_readRule r0 h4) fun v15 h14 => if v15 = 0 ∨ v15 = 1 then some (v15, h14) else none else zc2 (fX7_readTrick r0 h2) fun v18 h17 => if v18 = 0 ∨ v18 = 1 then some (v18, h17) else none else none
/-! FifthCard Reader readText -/
def bX7_readText_49 (g : Zh) (r0 : Nat) (x4 : Int32) (h : Zh) : Option (Nat × Int32 × Zh) :=
  if (zI h r0 3) < x4 then some (4, (x4, h)) else zc2 (fX7_readLine r0 h) fun v14 h13 => if v14 = 0 then some (1, (x4, h13)) else if (zI h13 r0 8) = 0 then some (2, (x4, h13)) else if (zI h13 r0 8) = ((3 : Int32)) then (fX7_step r0 h13).bind fun h15 => zlet (x4 + (1 : Int32)) fun y16 => some (0, (y16, h15)) else some (3, (x4, h13))
def kX7_readText_49 (g : Zh) (r0 : Nat) (e : Nat) (x4 : Int32) (h : Zh) : Option (Int32 × Zh) :=
  if e = 1 then some ((0 : Int32), h) else if e = 2 then some ((1 : Int32), h) else if e = 3 then zc2 (fX7_fail r0 ((1 : Int32)) h) fun v18 h17 => if v18 = 0 ∨ v18 = 1 then some (v18, h17) else none else zc2 (fX7_fail r0 ((1 : Int32)) h) fun v21 h20 => if v21 = 0 ∨ v21 = 1 then some (v21, h20) else none
def fX7_readText (r0 : Nat) (r1 : Nat) (x2 : Int32) (r3 : Nat) (h : Zh) : Option (Int32 × Zh) := zlet h fun g =>
  if zK g r0 = 7 then zlet (zsR h r0 2 (some r1)) fun h2 => if zK g r1 = 101 then zlet (zsI h2 r0 3 (if (Int32.ofNat (zL g r1)) < x2 then (Int32.ofNat (zL g r1)) else x2)) fun h4 => zlet (zsR h4 r0 4 (some r3)) fun h5 => (zR h5 r0 4).bind fun r_6 => if zK g r_6 = 9 then (fX9_clear r_6 h5).bind fun h8 => zlet (zsI h8 r0 0 ((0 : Int32))) fun h9 => zlet (zsI h9 r0 1 ((0 : Int32))) fun h10 => zlet (zsI h10 r0 10 ((0 : Int32))) fun h11 => (fX7_step r0 h11).bind fun h12 => (lp (fun q : Int32 × Zh => bX7_readText_49 g r0 q.1 q.2) zB ((0 : Int32), h12)).bind fun q => kX7_readText_49 g r0 q.1 q.2.1 q.2.2 else none else none else none
/-! FifthCard trick -/
def fX10_trick (r0 : Nat) (x1 : Int32) (h : Zh) : Option (Int32 × Zh) := zlet h fun g =>
  if x1 < 0 then if zK g r0 = 10 then zc2 (fX10_refuse r0 ((2 : Int32)) h) fun v3 h2 => some (v3, h2) else none else if zK g r0 = 10 then if x1 ≤ (zI h r0 1) then zlet (zsI h r0 1 ((0 : Int32))) fun h5 => (zR h5 r0 2).bind fun r_6 => (zR h5 r0 0).bind fun r_7 => (zR h5 r0 4).bind fun r_8 => if zK g r_6 = 7 then zc2 (fX7_readText r_6 r_7 x1 r_8 h5) fun v11 h10 => (zR h10 r0 2).bind fun r_12 => if zK g r_12 = 7 then zlet (zsI h10 r0 9 (zI h10 r_12 0)) fun h14 => (zR h14 r0 2).bind fun r_15 => if zK g r_15 = 7 then zlet (zsI h14 r0 10 (zI h14 r_15 1)) fun h17 => if v11 = 0 then zc2 (fX10_refuse r0 ((4 : Int32)) h17) fun v32 h31 => some (v32, h31) else (zR h17 r0 3).bind fun r_18 => (zR h17 r0 4).bind fun r_19 => zlet (zsR h17 r0 3 (some r_19)) fun h20 => zlet (zsR h20 r0 4 (some r_18)) fun h21 => zlet (zsI h21 r0 7 ((0 : Int32))) fun h22 => (zR h22 r0 5).bind fun r_23 => (zR h22 r0 3).bind fun r_24 => if zK g r_23 = 4 then (fX4_begin r_23 r_24 h22).bind fun h26 => (zR h26 r0 3).bind fun r_27 => if zK g r_27 = 9 then zc2 (fX10_answer r0 (zI h26 r_27 3) h26) fun v30 h29 => some (v30, h29) else none else none else none else none else none else zc2 (fX10_refuse r0 ((2 : Int32)) h) fun v34 h33 => some (v34, h33) else none
/-! FifthCard image -/
def fX10_image (r0 : Nat) (h : Zh) : Option (Int32 × Zh) := zlet h fun g =>
  if zK g r0 = 10 then (zR h r0 3).bind fun r_2 => if zK g r_2 = 9 then if (zI h r_2 0) = 0 then zc2 (fX10_refuse r0 ((1 : Int32)) h) fun v19 h18 => some (v19, h18) else if (zI h r0 7) < ((3 : Int32)) then (zR h r0 6).bind fun r_4 => if zK g r_4 = 105 then if zin (zI h r0 7) (zL g r_4) then (zR h r_4 (zI h r0 7).toNatClampNeg).bind fun r_7 => (zR h r0 3).bind fun r_8 => if zK g r_8 = 9 then (zR h r_8 4).bind fun r_10 => if zK g r_7 = 1 then (fX1_become r_7 r_10 h).bind fun h12 => zlet (zsI h12 r0 7 ((zI h12 r0 7) + ((1 : Int32)))) fun h13 => zc2 (fX10_answer r0 ((zI h13 r0 7) - ((1 : Int32))) h13) fun v15 h14 => some (v15, h14) else none else none else none else none else zc2 (fX10_refuse r0 ((3 : Int32)) h) fun v17 h16 => some (v17, h16) else none else none
/-! FifthCard back -/
def fX10_back (r0 : Nat) (x1 : Int32) (h : Zh) : Option (Int32 × Zh) := zlet h fun g =>
  if x1 < 0 then if zK g r0 = 10 then zc2 (fX10_deny r0 ((1 : Int32)) h) fun v3 h2 => if v3 = 0 ∨ v3 = 1 then some (v3, h2) else none else none else if zK g r0 = 10 then if x1 < (zI h r0 7) then (zR h r0 3).bind fun r_6 => if zK g r_6 = 9 then (zR h r_6 4).bind fun r_8 => (zR h r0 6).bind fun r_9 => if zK g r_9 = 105 then if zin x1 (zL g r_9) then (zR h r_9 x1.toNatClampNeg).bind fun r_12 => if zK g r_8 = 1 then (fX1_become r_8 r_12 h).bind fun h14 => zc2 (fX10_grant r0 h14) fun v16 h15 => if v16 = 0 ∨ v16 = 1 then some (v16, h15) else none else none else none else none else none else zc2 (fX10_deny r0 ((1 : Int32)) h) fun v19 h18 => if v19 = 0 ∨ v19 = 1 then some (v19, h18) else none else none
theorem dX7_readKind_0 : decode cX7_readKind 0 = .ok (.aload_n 0, 1) := by decide +kernel
theorem dX7_readKind_1 : decode cX7_readKind 1 = .ok (.ldc 194, 2) := by decide +kernel
theorem dX7_readKind_3 : decode cX7_readKind 3 = .ok (.invokevirtual 87, 3) := by decide +kernel
theorem dX7_readKind_6 : decode cX7_readKind 6 = .ok (.ifCond .eq 10, 3) := by decide +kernel
theorem dX7_readKind_9 : decode cX7_readKind 9 = .ok (.aload_n 0, 1) := by decide +kernel
theorem dX7_readKind_10 : decode cX7_readKind 10 = .ok (.invokevirtual 54, 3) := by decide +kernel
theorem dX7_readKind_13 : decode cX7_readKind 13 = .ok (.bipush 20, 2) := by decide +kernel
theorem dX7_readKind_15 : decode cX7_readKind 15 = .ok (.ireturn, 1) := by decide +kernel
theorem dX7_readKind_16 : decode cX7_readKind 16 = .ok (.aload_n 0, 1) := by decide +kernel
theorem dX7_readKind_17 : decode cX7_readKind 17 = .ok (.ldc 196, 2) := by decide +kernel
theorem dX7_readKind_19 : decode cX7_readKind 19 = .ok (.invokevirtual 87, 3) := by decide +kernel
theorem dX7_readKind_22 : decode cX7_readKind 22 = .ok (.ifCond .eq 10, 3) := by decide +kernel
theorem dX7_readKind_25 : decode cX7_readKind 25 = .ok (.aload_n 0, 1) := by decide +kernel
theorem dX7_readKind_26 : decode cX7_readKind 26 = .ok (.invokevirtual 54, 3) := by decide +kernel
theorem dX7_readKind_29 : decode cX7_readKind 29 = .ok (.bipush 21, 2) := by decide +kernel
theorem dX7_readKind_31 : decode cX7_readKind 31 = .ok (.ireturn, 1) := by decide +kernel
theorem dX7_readKind_32 : decode cX7_readKind 32 = .ok (.aload_n 0, 1) := by decide +kernel
theorem dX7_readKind_33 : decode cX7_readKind 33 = .ok (.ldc 198, 2) := by decide +kernel
theorem dX7_readKind_35 : decode cX7_readKind 35 = .ok (.invokevirtual 150, 3) := by decide +kernel
theorem dX7_readKind_38 : decode cX7_readKind 38 = .ok (.ifCond .ne 5, 3) := by decide +kernel
theorem dX7_readKind_41 : decode cX7_readKind 41 = .ok (.iconst (-1), 1) := by decide +kernel
theorem dX7_readKind_42 : decode cX7_readKind 42 = .ok (.ireturn, 1) := by decide +kernel
theorem dX7_readKind_43 : decode cX7_readKind 43 = .ok (.aload_n 0, 1) := by decide +kernel
theorem dX7_readKind_44 : decode cX7_readKind 44 = .ok (.invokevirtual 200, 3) := by decide +kernel
theorem dX7_readKind_47 : decode cX7_readKind 47 = .ok (.istore_n 1, 1) := by decide +kernel
theorem dX7_readKind_48 : decode cX7_readKind 48 = .ok (.iload_n 1, 1) := by decide +kernel
theorem dX7_readKind_49 : decode cX7_readKind 49 = .ok (.ifCond .ge 11, 3) := by decide +kernel
theorem dX7_readKind_52 : decode cX7_readKind 52 = .ok (.aload_n 0, 1) := by decide +kernel
theorem dX7_readKind_53 : decode cX7_readKind 53 = .ok (.iconst 1, 1) := by decide +kernel
theorem dX7_readKind_54 : decode cX7_readKind 54 = .ok (.invokevirtual 64, 3) := by decide +kernel
theorem dX7_readKind_57 : decode cX7_readKind 57 = .ok (.pop, 1) := by decide +kernel
theorem dX7_readKind_58 : decode cX7_readKind 58 = .ok (.iconst (-1), 1) := by decide +kernel
theorem dX7_readKind_59 : decode cX7_readKind 59 = .ok (.ireturn, 1) := by decide +kernel
theorem dX7_readKind_60 : decode cX7_readKind 60 = .ok (.aload_n 0, 1) := by decide +kernel
theorem dX7_readKind_61 : decode cX7_readKind 61 = .ok (.invokevirtual 54, 3) := by decide +kernel
theorem dX7_readKind_64 : decode cX7_readKind 64 = .ok (.aload_n 0, 1) := by decide +kernel
theorem dX7_readKind_65 : decode cX7_readKind 65 = .ok (.ldc 203, 2) := by decide +kernel
theorem dX7_readKind_67 : decode cX7_readKind 67 = .ok (.invokevirtual 150, 3) := by decide +kernel
theorem dX7_readKind_70 : decode cX7_readKind 70 = .ok (.ifCond .ne 5, 3) := by decide +kernel
theorem dX7_readKind_73 : decode cX7_readKind 73 = .ok (.iconst (-1), 1) := by decide +kernel
theorem dX7_readKind_74 : decode cX7_readKind 74 = .ok (.ireturn, 1) := by decide +kernel
theorem dX7_readKind_75 : decode cX7_readKind 75 = .ok (.aload_n 0, 1) := by decide +kernel
theorem dX7_readKind_76 : decode cX7_readKind 76 = .ok (.invokevirtual 205, 3) := by decide +kernel
theorem dX7_readKind_79 : decode cX7_readKind 79 = .ok (.istore_n 2, 1) := by decide +kernel
theorem dX7_readKind_80 : decode cX7_readKind 80 = .ok (.iload_n 2, 1) := by decide +kernel
theorem dX7_readKind_81 : decode cX7_readKind 81 = .ok (.ifCond .ge 11, 3) := by decide +kernel
theorem dX7_readKind_84 : decode cX7_readKind 84 = .ok (.aload_n 0, 1) := by decide +kernel
theorem dX7_readKind_85 : decode cX7_readKind 85 = .ok (.iconst 1, 1) := by decide +kernel
theorem dX7_readKind_86 : decode cX7_readKind 86 = .ok (.invokevirtual 64, 3) := by decide +kernel
theorem dX7_readKind_89 : decode cX7_readKind 89 = .ok (.pop, 1) := by decide +kernel
theorem dX7_readKind_90 : decode cX7_readKind 90 = .ok (.iconst (-1), 1) := by decide +kernel
theorem dX7_readKind_91 : decode cX7_readKind 91 = .ok (.ireturn, 1) := by decide +kernel
theorem dX7_readKind_92 : decode cX7_readKind 92 = .ok (.aload_n 0, 1) := by decide +kernel
theorem dX7_readKind_93 : decode cX7_readKind 93 = .ok (.invokevirtual 54, 3) := by decide +kernel
theorem dX7_readKind_96 : decode cX7_readKind 96 = .ok (.iconst 5, 1) := by decide +kernel
theorem dX7_readKind_97 : decode cX7_readKind 97 = .ok (.iload_n 1, 1) := by decide +kernel
theorem dX7_readKind_98 : decode cX7_readKind 98 = .ok (.imul, 1) := by decide +kernel
theorem dX7_readKind_99 : decode cX7_readKind 99 = .ok (.iload_n 2, 1) := by decide +kernel
theorem dX7_readKind_100 : decode cX7_readKind 100 = .ok (.iadd, 1) := by decide +kernel
theorem dX7_readKind_101 : decode cX7_readKind 101 = .ok (.ireturn, 1) := by decide +kernel
theorem dX7_readRule_0 : decode cX7_readRule 0 = .ok (.aload_n 0, 1) := by decide +kernel
theorem dX7_readRule_1 : decode cX7_readRule 1 = .ok (.getfield 18, 3) := by decide +kernel
theorem dX7_readRule_4 : decode cX7_readRule 4 = .ok (.getfield 110, 3) := by decide +kernel
theorem dX7_readRule_7 : decode cX7_readRule 7 = .ok (.ifCond .ne 10, 3) := by decide +kernel
theorem dX7_readRule_10 : decode cX7_readRule 10 = .ok (.aload_n 0, 1) := by decide +kernel
theorem dX7_readRule_11 : decode cX7_readRule 11 = .ok (.bipush 6, 2) := by decide +kernel
theorem dX7_readRule_13 : decode cX7_readRule 13 = .ok (.invokevirtual 64, 3) := by decide +kernel
theorem dX7_readRule_16 : decode cX7_readRule 16 = .ok (.ireturn, 1) := by decide +kernel
theorem dX7_readRule_17 : decode cX7_readRule 17 = .ok (.aload_n 0, 1) := by decide +kernel
theorem dX7_readRule_18 : decode cX7_readRule 18 = .ok (.getfield 18, 3) := by decide +kernel
theorem dX7_readRule_21 : decode cX7_readRule 21 = .ok (.getfield 175, 3) := by decide +kernel
theorem dX7_readRule_24 : decode cX7_readRule 24 = .ok (.iconst 4, 1) := by decide +kernel
theorem dX7_readRule_25 : decode cX7_readRule 25 = .ok (.if_icmp .lt 9, 3) := by decide +kernel
theorem dX7_readRule_28 : decode cX7_readRule 28 = .ok (.aload_n 0, 1) := by decide +kernel
theorem dX7_readRule_29 : decode cX7_readRule 29 = .ok (.iconst 5, 1) := by decide +kernel
theorem dX7_readRule_30 : decode cX7_readRule 30 = .ok (.invokevirtual 64, 3) := by decide +kernel
theorem dX7_readRule_33 : decode cX7_readRule 33 = .ok (.ireturn, 1) := by decide +kernel
theorem dX7_readRule_34 : decode cX7_readRule 34 = .ok (.aload_n 0, 1) := by decide +kernel
theorem dX7_readRule_35 : decode cX7_readRule 35 = .ok (.invokevirtual 54, 3) := by decide +kernel
theorem dX7_readRule_38 : decode cX7_readRule 38 = .ok (.aload_n 0, 1) := by decide +kernel
theorem dX7_readRule_39 : decode cX7_readRule 39 = .ok (.invokevirtual 178, 3) := by decide +kernel
theorem dX7_readRule_42 : decode cX7_readRule 42 = .ok (.ifCond .ne 5, 3) := by decide +kernel
theorem dX7_readRule_45 : decode cX7_readRule 45 = .ok (.iconst 0, 1) := by decide +kernel
theorem dX7_readRule_46 : decode cX7_readRule 46 = .ok (.ireturn, 1) := by decide +kernel
theorem dX7_readRule_47 : decode cX7_readRule 47 = .ok (.aload_n 0, 1) := by decide +kernel
theorem dX7_readRule_48 : decode cX7_readRule 48 = .ok (.invokevirtual 181, 3) := by decide +kernel
theorem dX7_readRule_51 : decode cX7_readRule 51 = .ok (.istore_n 1, 1) := by decide +kernel
theorem dX7_readRule_52 : decode cX7_readRule 52 = .ok (.iload_n 1, 1) := by decide +kernel
theorem dX7_readRule_53 : decode cX7_readRule 53 = .ok (.ifCond .ge 5, 3) := by decide +kernel
theorem dX7_readRule_56 : decode cX7_readRule 56 = .ok (.iconst 0, 1) := by decide +kernel
theorem dX7_readRule_57 : decode cX7_readRule 57 = .ok (.ireturn, 1) := by decide +kernel
theorem dX7_readRule_58 : decode cX7_readRule 58 = .ok (.aload_n 0, 1) := by decide +kernel
theorem dX7_readRule_59 : decode cX7_readRule 59 = .ok (.getfield 18, 3) := by decide +kernel
theorem dX7_readRule_62 : decode cX7_readRule 62 = .ok (.getfield 184, 3) := by decide +kernel
theorem dX7_readRule_65 : decode cX7_readRule 65 = .ok (.aload_n 0, 1) := by decide +kernel
theorem dX7_readRule_66 : decode cX7_readRule 66 = .ok (.getfield 18, 3) := by decide +kernel
theorem dX7_readRule_69 : decode cX7_readRule 69 = .ok (.getfield 175, 3) := by decide +kernel
theorem dX7_readRule_72 : decode cX7_readRule 72 = .ok (.iload_n 1, 1) := by decide +kernel
theorem dX7_readRule_73 : decode cX7_readRule 73 = .ok (.iastore, 1) := by decide +kernel
theorem dX7_readRule_74 : decode cX7_readRule 74 = .ok (.aload_n 0, 1) := by decide +kernel
theorem dX7_readRule_75 : decode cX7_readRule 75 = .ok (.getfield 18, 3) := by decide +kernel
theorem dX7_readRule_78 : decode cX7_readRule 78 = .ok (.dup, 1) := by decide +kernel
theorem dX7_readRule_79 : decode cX7_readRule 79 = .ok (.getfield 175, 3) := by decide +kernel
theorem dX7_readRule_82 : decode cX7_readRule 82 = .ok (.iconst 1, 1) := by decide +kernel
theorem dX7_readRule_83 : decode cX7_readRule 83 = .ok (.iadd, 1) := by decide +kernel
theorem dX7_readRule_84 : decode cX7_readRule 84 = .ok (.putfield 175, 3) := by decide +kernel
theorem dX7_readRule_87 : decode cX7_readRule 87 = .ok (.iconst 1, 1) := by decide +kernel
theorem dX7_readRule_88 : decode cX7_readRule 88 = .ok (.ireturn, 1) := by decide +kernel
theorem dX7_readEvening_0 : decode cX7_readEvening 0 = .ok (.aload_n 0, 1) := by decide +kernel
theorem dX7_readEvening_1 : decode cX7_readEvening 1 = .ok (.getfield 18, 3) := by decide +kernel
theorem dX7_readEvening_4 : decode cX7_readEvening 4 = .ok (.getfield 110, 3) := by decide +kernel
theorem dX7_readEvening_7 : decode cX7_readEvening 7 = .ok (.ifCond .ne 10, 3) := by decide +kernel
theorem dX7_readEvening_10 : decode cX7_readEvening 10 = .ok (.aload_n 0, 1) := by decide +kernel
theorem dX7_readEvening_11 : decode cX7_readEvening 11 = .ok (.bipush 6, 2) := by decide +kernel
theorem dX7_readEvening_13 : decode cX7_readEvening 13 = .ok (.invokevirtual 64, 3) := by decide +kernel
theorem dX7_readEvening_16 : decode cX7_readEvening 16 = .ok (.ireturn, 1) := by decide +kernel
theorem dX7_readEvening_17 : decode cX7_readEvening 17 = .ok (.aload_n 0, 1) := by decide +kernel
theorem dX7_readEvening_18 : decode cX7_readEvening 18 = .ok (.getfield 18, 3) := by decide +kernel
theorem dX7_readEvening_21 : decode cX7_readEvening 21 = .ok (.getfield 224, 3) := by decide +kernel
theorem dX7_readEvening_24 : decode cX7_readEvening 24 = .ok (.getfield 228, 3) := by decide +kernel
theorem dX7_readEvening_27 : decode cX7_readEvening 27 = .ok (.bipush 9, 2) := by decide +kernel
theorem dX7_readEvening_29 : decode cX7_readEvening 29 = .ok (.if_icmp .lt 9, 3) := by decide +kernel
theorem dX7_readEvening_32 : decode cX7_readEvening 32 = .ok (.aload_n 0, 1) := by decide +kernel
theorem dX7_readEvening_33 : decode cX7_readEvening 33 = .ok (.iconst 5, 1) := by decide +kernel
theorem dX7_readEvening_34 : decode cX7_readEvening 34 = .ok (.invokevirtual 64, 3) := by decide +kernel
theorem dX7_readEvening_37 : decode cX7_readEvening 37 = .ok (.ireturn, 1) := by decide +kernel
theorem dX7_readEvening_38 : decode cX7_readEvening 38 = .ok (.aload_n 0, 1) := by decide +kernel
theorem dX7_readEvening_39 : decode cX7_readEvening 39 = .ok (.invokevirtual 54, 3) := by decide +kernel
theorem dX7_readEvening_42 : decode cX7_readEvening 42 = .ok (.aload_n 0, 1) := by decide +kernel
theorem dX7_readEvening_43 : decode cX7_readEvening 43 = .ok (.getfield 18, 3) := by decide +kernel
theorem dX7_readEvening_46 : decode cX7_readEvening 46 = .ok (.getfield 114, 3) := by decide +kernel
theorem dX7_readEvening_49 : decode cX7_readEvening 49 = .ok (.astore_n 1, 1) := by decide +kernel
theorem dX7_readEvening_50 : decode cX7_readEvening 50 = .ok (.aload_n 0, 1) := by decide +kernel
theorem dX7_readEvening_51 : decode cX7_readEvening 51 = .ok (.aload_n 1, 1) := by decide +kernel
theorem dX7_readEvening_52 : decode cX7_readEvening 52 = .ok (.getfield 134, 3) := by decide +kernel
theorem dX7_readEvening_55 : decode cX7_readEvening 55 = .ok (.invokevirtual 232, 3) := by decide +kernel
theorem dX7_readEvening_58 : decode cX7_readEvening 58 = .ok (.ifCond .ne 5, 3) := by decide +kernel
theorem dX7_readEvening_61 : decode cX7_readEvening 61 = .ok (.iconst 0, 1) := by decide +kernel
theorem dX7_readEvening_62 : decode cX7_readEvening 62 = .ok (.ireturn, 1) := by decide +kernel
theorem dX7_readEvening_63 : decode cX7_readEvening 63 = .ok (.aload_n 1, 1) := by decide +kernel
theorem dX7_readEvening_64 : decode cX7_readEvening 64 = .ok (.aload_n 0, 1) := by decide +kernel
theorem dX7_readEvening_65 : decode cX7_readEvening 65 = .ok (.getfield 29, 3) := by decide +kernel
theorem dX7_readEvening_68 : decode cX7_readEvening 68 = .ok (.invokevirtual 235, 3) := by decide +kernel
theorem dX7_readEvening_71 : decode cX7_readEvening 71 = .ok (.istore_n 2, 1) := by decide +kernel
theorem dX7_readEvening_72 : decode cX7_readEvening 72 = .ok (.aload_n 0, 1) := by decide +kernel
theorem dX7_readEvening_73 : decode cX7_readEvening 73 = .ok (.ldc 187, 2) := by decide +kernel
theorem dX7_readEvening_75 : decode cX7_readEvening 75 = .ok (.invokevirtual 150, 3) := by decide +kernel
theorem dX7_readEvening_78 : decode cX7_readEvening 78 = .ok (.ifCond .eq 14, 3) := by decide +kernel
theorem dX7_readEvening_81 : decode cX7_readEvening 81 = .ok (.aload_n 0, 1) := by decide +kernel
theorem dX7_readEvening_82 : decode cX7_readEvening 82 = .ok (.aload_n 1, 1) := by decide +kernel
theorem dX7_readEvening_83 : decode cX7_readEvening 83 = .ok (.getfield 239, 3) := by decide +kernel
theorem dX7_readEvening_86 : decode cX7_readEvening 86 = .ok (.invokevirtual 232, 3) := by decide +kernel
theorem dX7_readEvening_89 : decode cX7_readEvening 89 = .ok (.ifCond .ne 5, 3) := by decide +kernel
theorem dX7_readEvening_92 : decode cX7_readEvening 92 = .ok (.iconst 0, 1) := by decide +kernel
theorem dX7_readEvening_93 : decode cX7_readEvening 93 = .ok (.ireturn, 1) := by decide +kernel
theorem dX7_readEvening_94 : decode cX7_readEvening 94 = .ok (.aload_n 1, 1) := by decide +kernel
theorem dX7_readEvening_95 : decode cX7_readEvening 95 = .ok (.aload_n 0, 1) := by decide +kernel
theorem dX7_readEvening_96 : decode cX7_readEvening 96 = .ok (.getfield 29, 3) := by decide +kernel
theorem dX7_readEvening_99 : decode cX7_readEvening 99 = .ok (.aload_n 1, 1) := by decide +kernel
theorem dX7_readEvening_100 : decode cX7_readEvening 100 = .ok (.getfield 239, 3) := by decide +kernel
theorem dX7_readEvening_103 : decode cX7_readEvening 103 = .ok (.invokevirtual 242, 3) := by decide +kernel
theorem dX7_readEvening_106 : decode cX7_readEvening 106 = .ok (.aload_n 1, 1) := by decide +kernel
theorem dX7_readEvening_107 : decode cX7_readEvening 107 = .ok (.getfield 246, 3) := by decide +kernel
theorem dX7_readEvening_110 : decode cX7_readEvening 110 = .ok (.imul, 1) := by decide +kernel
theorem dX7_readEvening_111 : decode cX7_readEvening 111 = .ok (.istore_n 3, 1) := by decide +kernel
theorem dX7_readEvening_112 : decode cX7_readEvening 112 = .ok (.iconst 0, 1) := by decide +kernel
theorem dX7_readEvening_113 : decode cX7_readEvening 113 = .ok (.istore 4, 2) := by decide +kernel
theorem dX7_readEvening_115 : decode cX7_readEvening 115 = .ok (.aload_n 1, 1) := by decide +kernel
theorem dX7_readEvening_116 : decode cX7_readEvening 116 = .ok (.getfield 173, 3) := by decide +kernel
theorem dX7_readEvening_119 : decode cX7_readEvening 119 = .ok (.ifCond .eq 33, 3) := by decide +kernel
theorem dX7_readEvening_122 : decode cX7_readEvening 122 = .ok (.aload_n 0, 1) := by decide +kernel
theorem dX7_readEvening_123 : decode cX7_readEvening 123 = .ok (.ldc 189, 2) := by decide +kernel
theorem dX7_readEvening_125 : decode cX7_readEvening 125 = .ok (.invokevirtual 87, 3) := by decide +kernel
theorem dX7_readEvening_128 : decode cX7_readEvening 128 = .ok (.ifCond .eq 24, 3) := by decide +kernel
theorem dX7_readEvening_131 : decode cX7_readEvening 131 = .ok (.aload_n 0, 1) := by decide +kernel
theorem dX7_readEvening_132 : decode cX7_readEvening 132 = .ok (.invokevirtual 54, 3) := by decide +kernel
theorem dX7_readEvening_135 : decode cX7_readEvening 135 = .ok (.aload_n 0, 1) := by decide +kernel
theorem dX7_readEvening_136 : decode cX7_readEvening 136 = .ok (.aload_n 1, 1) := by decide +kernel
theorem dX7_readEvening_137 : decode cX7_readEvening 137 = .ok (.getfield 239, 3) := by decide +kernel
theorem dX7_readEvening_140 : decode cX7_readEvening 140 = .ok (.invokevirtual 249, 3) := by decide +kernel
theorem dX7_readEvening_143 : decode cX7_readEvening 143 = .ok (.istore 4, 2) := by decide +kernel
theorem dX7_readEvening_145 : decode cX7_readEvening 145 = .ok (.iload 4, 2) := by decide +kernel
theorem dX7_readEvening_147 : decode cX7_readEvening 147 = .ok (.ifCond .ge 5, 3) := by decide +kernel
theorem dX7_readEvening_150 : decode cX7_readEvening 150 = .ok (.iconst 0, 1) := by decide +kernel
theorem dX7_readEvening_151 : decode cX7_readEvening 151 = .ok (.ireturn, 1) := by decide +kernel
theorem dX7_readEvening_152 : decode cX7_readEvening 152 = .ok (.aload_n 0, 1) := by decide +kernel
theorem dX7_readEvening_153 : decode cX7_readEvening 153 = .ok (.getfield 18, 3) := by decide +kernel
theorem dX7_readEvening_156 : decode cX7_readEvening 156 = .ok (.getfield 224, 3) := by decide +kernel
theorem dX7_readEvening_159 : decode cX7_readEvening 159 = .ok (.iload_n 2, 1) := by decide +kernel
theorem dX7_readEvening_160 : decode cX7_readEvening 160 = .ok (.iload_n 3, 1) := by decide +kernel
theorem dX7_readEvening_161 : decode cX7_readEvening 161 = .ok (.iload 4, 2) := by decide +kernel
theorem dX7_readEvening_163 : decode cX7_readEvening 163 = .ok (.iadd, 1) := by decide +kernel
theorem dX7_readEvening_164 : decode cX7_readEvening 164 = .ok (.invokevirtual 253, 3) := by decide +kernel
theorem dX7_readEvening_167 : decode cX7_readEvening 167 = .ok (.iconst 1, 1) := by decide +kernel
theorem dX7_readEvening_168 : decode cX7_readEvening 168 = .ok (.ireturn, 1) := by decide +kernel
theorem dX7_readLine_0 : decode cX7_readLine 0 = .ok (.aload_n 0, 1) := by decide +kernel
theorem dX7_readLine_1 : decode cX7_readLine 1 = .ok (.ldc 95, 2) := by decide +kernel
theorem dX7_readLine_3 : decode cX7_readLine 3 = .ok (.invokevirtual 87, 3) := by decide +kernel
theorem dX7_readLine_6 : decode cX7_readLine 6 = .ok (.ifCond .eq 8, 3) := by decide +kernel
theorem dX7_readLine_9 : decode cX7_readLine 9 = .ok (.aload_n 0, 1) := by decide +kernel
theorem dX7_readLine_10 : decode cX7_readLine 10 = .ok (.invokevirtual 97, 3) := by decide +kernel
theorem dX7_readLine_13 : decode cX7_readLine 13 = .ok (.ireturn, 1) := by decide +kernel
theorem dX7_readLine_14 : decode cX7_readLine 14 = .ok (.aload_n 0, 1) := by decide +kernel
theorem dX7_readLine_15 : decode cX7_readLine 15 = .ok (.ldc 100, 2) := by decide +kernel
theorem dX7_readLine_17 : decode cX7_readLine 17 = .ok (.invokevirtual 87, 3) := by decide +kernel
theorem dX7_readLine_20 : decode cX7_readLine 20 = .ok (.ifCond .eq 8, 3) := by decide +kernel
theorem dX7_readLine_23 : decode cX7_readLine 23 = .ok (.aload_n 0, 1) := by decide +kernel
theorem dX7_readLine_24 : decode cX7_readLine 24 = .ok (.invokevirtual 102, 3) := by decide +kernel
theorem dX7_readLine_27 : decode cX7_readLine 27 = .ok (.ireturn, 1) := by decide +kernel
theorem dX7_readLine_28 : decode cX7_readLine 28 = .ok (.aload_n 0, 1) := by decide +kernel
theorem dX7_readLine_29 : decode cX7_readLine 29 = .ok (.ldc 105, 2) := by decide +kernel
theorem dX7_readLine_31 : decode cX7_readLine 31 = .ok (.invokevirtual 87, 3) := by decide +kernel
theorem dX7_readLine_34 : decode cX7_readLine 34 = .ok (.ifCond .eq 8, 3) := by decide +kernel
theorem dX7_readLine_37 : decode cX7_readLine 37 = .ok (.aload_n 0, 1) := by decide +kernel
theorem dX7_readLine_38 : decode cX7_readLine 38 = .ok (.invokevirtual 107, 3) := by decide +kernel
theorem dX7_readLine_41 : decode cX7_readLine 41 = .ok (.ireturn, 1) := by decide +kernel
theorem dX7_readLine_42 : decode cX7_readLine 42 = .ok (.aload_n 0, 1) := by decide +kernel
theorem dX7_readLine_43 : decode cX7_readLine 43 = .ok (.iconst 1, 1) := by decide +kernel
theorem dX7_readLine_44 : decode cX7_readLine 44 = .ok (.invokevirtual 64, 3) := by decide +kernel
theorem dX7_readLine_47 : decode cX7_readLine 47 = .ok (.ireturn, 1) := by decide +kernel
theorem dX7_readText_0 : decode cX7_readText 0 = .ok (.aload_n 0, 1) := by decide +kernel
theorem dX7_readText_1 : decode cX7_readText 1 = .ok (.aload_n 1, 1) := by decide +kernel
theorem dX7_readText_2 : decode cX7_readText 2 = .ok (.putfield 9, 3) := by decide +kernel
theorem dX7_readText_5 : decode cX7_readText 5 = .ok (.aload_n 0, 1) := by decide +kernel
theorem dX7_readText_6 : decode cX7_readText 6 = .ok (.iload_n 2, 1) := by decide +kernel
theorem dX7_readText_7 : decode cX7_readText 7 = .ok (.aload_n 1, 1) := by decide +kernel
theorem dX7_readText_8 : decode cX7_readText 8 = .ok (.arraylength, 1) := by decide +kernel
theorem dX7_readText_9 : decode cX7_readText 9 = .ok (.invokestatic 32, 3) := by decide +kernel
theorem dX7_readText_12 : decode cX7_readText 12 = .ok (.putfield 38, 3) := by decide +kernel
theorem dX7_readText_15 : decode cX7_readText 15 = .ok (.aload_n 0, 1) := by decide +kernel
theorem dX7_readText_16 : decode cX7_readText 16 = .ok (.aload_n 3, 1) := by decide +kernel
theorem dX7_readText_17 : decode cX7_readText 17 = .ok (.putfield 18, 3) := by decide +kernel
theorem dX7_readText_20 : decode cX7_readText 20 = .ok (.aload_n 0, 1) := by decide +kernel
theorem dX7_readText_21 : decode cX7_readText 21 = .ok (.getfield 18, 3) := by decide +kernel
theorem dX7_readText_24 : decode cX7_readText 24 = .ok (.invokevirtual 42, 3) := by decide +kernel
theorem dX7_readText_27 : decode cX7_readText 27 = .ok (.aload_n 0, 1) := by decide +kernel
theorem dX7_readText_28 : decode cX7_readText 28 = .ok (.iconst 0, 1) := by decide +kernel
theorem dX7_readText_29 : decode cX7_readText 29 = .ok (.putfield 45, 3) := by decide +kernel
theorem dX7_readText_32 : decode cX7_readText 32 = .ok (.aload_n 0, 1) := by decide +kernel
theorem dX7_readText_33 : decode cX7_readText 33 = .ok (.iconst 0, 1) := by decide +kernel
theorem dX7_readText_34 : decode cX7_readText 34 = .ok (.putfield 48, 3) := by decide +kernel
theorem dX7_readText_37 : decode cX7_readText 37 = .ok (.aload_n 0, 1) := by decide +kernel
theorem dX7_readText_38 : decode cX7_readText 38 = .ok (.iconst 0, 1) := by decide +kernel
theorem dX7_readText_39 : decode cX7_readText 39 = .ok (.putfield 51, 3) := by decide +kernel
theorem dX7_readText_42 : decode cX7_readText 42 = .ok (.aload_n 0, 1) := by decide +kernel
theorem dX7_readText_43 : decode cX7_readText 43 = .ok (.invokevirtual 54, 3) := by decide +kernel
theorem dX7_readText_46 : decode cX7_readText 46 = .ok (.iconst 0, 1) := by decide +kernel
theorem dX7_readText_47 : decode cX7_readText 47 = .ok (.istore 4, 2) := by decide +kernel
theorem dX7_readText_49 : decode cX7_readText 49 = .ok (.iload 4, 2) := by decide +kernel
theorem dX7_readText_51 : decode cX7_readText 51 = .ok (.aload_n 0, 1) := by decide +kernel
theorem dX7_readText_52 : decode cX7_readText 52 = .ok (.getfield 38, 3) := by decide +kernel
theorem dX7_readText_55 : decode cX7_readText 55 = .ok (.if_icmp .gt 45, 3) := by decide +kernel
theorem dX7_readText_58 : decode cX7_readText 58 = .ok (.aload_n 0, 1) := by decide +kernel
theorem dX7_readText_59 : decode cX7_readText 59 = .ok (.invokevirtual 57, 3) := by decide +kernel
theorem dX7_readText_62 : decode cX7_readText 62 = .ok (.ifCond .ne 5, 3) := by decide +kernel
theorem dX7_readText_65 : decode cX7_readText 65 = .ok (.iconst 0, 1) := by decide +kernel
theorem dX7_readText_66 : decode cX7_readText 66 = .ok (.ireturn, 1) := by decide +kernel
theorem dX7_readText_67 : decode cX7_readText 67 = .ok (.aload_n 0, 1) := by decide +kernel
theorem dX7_readText_68 : decode cX7_readText 68 = .ok (.getfield 61, 3) := by decide +kernel
theorem dX7_readText_71 : decode cX7_readText 71 = .ok (.ifCond .ne 5, 3) := by decide +kernel
theorem dX7_readText_74 : decode cX7_readText 74 = .ok (.iconst 1, 1) := by decide +kernel
theorem dX7_readText_75 : decode cX7_readText 75 = .ok (.ireturn, 1) := by decide +kernel
theorem dX7_readText_76 : decode cX7_readText 76 = .ok (.aload_n 0, 1) := by decide +kernel
theorem dX7_readText_77 : decode cX7_readText 77 = .ok (.getfield 61, 3) := by decide +kernel
theorem dX7_readText_80 : decode cX7_readText 80 = .ok (.iconst 3, 1) := by decide +kernel
theorem dX7_readText_81 : decode cX7_readText 81 = .ok (.if_icmp .eq 9, 3) := by decide +kernel
theorem dX7_readText_84 : decode cX7_readText 84 = .ok (.aload_n 0, 1) := by decide +kernel
theorem dX7_readText_85 : decode cX7_readText 85 = .ok (.iconst 1, 1) := by decide +kernel
theorem dX7_readText_86 : decode cX7_readText 86 = .ok (.invokevirtual 64, 3) := by decide +kernel
theorem dX7_readText_89 : decode cX7_readText 89 = .ok (.ireturn, 1) := by decide +kernel
theorem dX7_readText_90 : decode cX7_readText 90 = .ok (.aload_n 0, 1) := by decide +kernel
theorem dX7_readText_91 : decode cX7_readText 91 = .ok (.invokevirtual 54, 3) := by decide +kernel
theorem dX7_readText_94 : decode cX7_readText 94 = .ok (.iinc 4 1, 3) := by decide +kernel
theorem dX7_readText_97 : decode cX7_readText 97 = .ok (.goto (-48), 3) := by decide +kernel
theorem dX7_readText_100 : decode cX7_readText 100 = .ok (.aload_n 0, 1) := by decide +kernel
theorem dX7_readText_101 : decode cX7_readText 101 = .ok (.iconst 1, 1) := by decide +kernel
theorem dX7_readText_102 : decode cX7_readText 102 = .ok (.invokevirtual 64, 3) := by decide +kernel
theorem dX7_readText_105 : decode cX7_readText 105 = .ok (.ireturn, 1) := by decide +kernel
theorem dX10_trick_0 : decode cX10_trick 0 = .ok (.iload_n 1, 1) := by decide +kernel
theorem dX10_trick_1 : decode cX10_trick 1 = .ok (.ifCond .lt 11, 3) := by decide +kernel
theorem dX10_trick_4 : decode cX10_trick 4 = .ok (.iload_n 1, 1) := by decide +kernel
theorem dX10_trick_5 : decode cX10_trick 5 = .ok (.aload_n 0, 1) := by decide +kernel
theorem dX10_trick_6 : decode cX10_trick 6 = .ok (.getfield 48, 3) := by decide +kernel
theorem dX10_trick_9 : decode cX10_trick 9 = .ok (.if_icmp .le 9, 3) := by decide +kernel
theorem dX10_trick_12 : decode cX10_trick 12 = .ok (.aload_n 0, 1) := by decide +kernel
theorem dX10_trick_13 : decode cX10_trick 13 = .ok (.iconst 2, 1) := by decide +kernel
theorem dX10_trick_14 : decode cX10_trick 14 = .ok (.invokevirtual 56, 3) := by decide +kernel
theorem dX10_trick_17 : decode cX10_trick 17 = .ok (.ireturn, 1) := by decide +kernel
theorem dX10_trick_18 : decode cX10_trick 18 = .ok (.aload_n 0, 1) := by decide +kernel
theorem dX10_trick_19 : decode cX10_trick 19 = .ok (.iconst 0, 1) := by decide +kernel
theorem dX10_trick_20 : decode cX10_trick 20 = .ok (.putfield 48, 3) := by decide +kernel
theorem dX10_trick_23 : decode cX10_trick 23 = .ok (.aload_n 0, 1) := by decide +kernel
theorem dX10_trick_24 : decode cX10_trick 24 = .ok (.getfield 16, 3) := by decide +kernel
theorem dX10_trick_27 : decode cX10_trick 27 = .ok (.aload_n 0, 1) := by decide +kernel
theorem dX10_trick_28 : decode cX10_trick 28 = .ok (.getfield 9, 3) := by decide +kernel
theorem dX10_trick_31 : decode cX10_trick 31 = .ok (.iload_n 1, 1) := by decide +kernel
theorem dX10_trick_32 : decode cX10_trick 32 = .ok (.aload_n 0, 1) := by decide +kernel
theorem dX10_trick_33 : decode cX10_trick 33 = .ok (.getfield 27, 3) := by decide +kernel
theorem dX10_trick_36 : decode cX10_trick 36 = .ok (.invokevirtual 60, 3) := by decide +kernel
theorem dX10_trick_39 : decode cX10_trick 39 = .ok (.istore_n 2, 1) := by decide +kernel
theorem dX10_trick_40 : decode cX10_trick 40 = .ok (.aload_n 0, 1) := by decide +kernel
theorem dX10_trick_41 : decode cX10_trick 41 = .ok (.aload_n 0, 1) := by decide +kernel
theorem dX10_trick_42 : decode cX10_trick 42 = .ok (.getfield 16, 3) := by decide +kernel
theorem dX10_trick_45 : decode cX10_trick 45 = .ok (.getfield 64, 3) := by decide +kernel
theorem dX10_trick_48 : decode cX10_trick 48 = .ok (.putfield 67, 3) := by decide +kernel
theorem dX10_trick_51 : decode cX10_trick 51 = .ok (.aload_n 0, 1) := by decide +kernel
theorem dX10_trick_52 : decode cX10_trick 52 = .ok (.aload_n 0, 1) := by decide +kernel
theorem dX10_trick_53 : decode cX10_trick 53 = .ok (.getfield 16, 3) := by decide +kernel
theorem dX10_trick_56 : decode cX10_trick 56 = .ok (.getfield 70, 3) := by decide +kernel
theorem dX10_trick_59 : decode cX10_trick 59 = .ok (.putfield 73, 3) := by decide +kernel
theorem dX10_trick_62 : decode cX10_trick 62 = .ok (.iload_n 2, 1) := by decide +kernel
theorem dX10_trick_63 : decode cX10_trick 63 = .ok (.ifCond .ne 9, 3) := by decide +kernel
theorem dX10_trick_66 : decode cX10_trick 66 = .ok (.aload_n 0, 1) := by decide +kernel
theorem dX10_trick_67 : decode cX10_trick 67 = .ok (.iconst 4, 1) := by decide +kernel
theorem dX10_trick_68 : decode cX10_trick 68 = .ok (.invokevirtual 56, 3) := by decide +kernel
theorem dX10_trick_71 : decode cX10_trick 71 = .ok (.ireturn, 1) := by decide +kernel
theorem dX10_trick_72 : decode cX10_trick 72 = .ok (.aload_n 0, 1) := by decide +kernel
theorem dX10_trick_73 : decode cX10_trick 73 = .ok (.getfield 23, 3) := by decide +kernel
theorem dX10_trick_76 : decode cX10_trick 76 = .ok (.astore_n 3, 1) := by decide +kernel
theorem dX10_trick_77 : decode cX10_trick 77 = .ok (.aload_n 0, 1) := by decide +kernel
theorem dX10_trick_78 : decode cX10_trick 78 = .ok (.aload_n 0, 1) := by decide +kernel
theorem dX10_trick_79 : decode cX10_trick 79 = .ok (.getfield 27, 3) := by decide +kernel
theorem dX10_trick_82 : decode cX10_trick 82 = .ok (.putfield 23, 3) := by decide +kernel
theorem dX10_trick_85 : decode cX10_trick 85 = .ok (.aload_n 0, 1) := by decide +kernel
theorem dX10_trick_86 : decode cX10_trick 86 = .ok (.aload_n 3, 1) := by decide +kernel
theorem dX10_trick_87 : decode cX10_trick 87 = .ok (.putfield 27, 3) := by decide +kernel
theorem dX10_trick_90 : decode cX10_trick 90 = .ok (.aload_n 0, 1) := by decide +kernel
theorem dX10_trick_91 : decode cX10_trick 91 = .ok (.iconst 0, 1) := by decide +kernel
theorem dX10_trick_92 : decode cX10_trick 92 = .ok (.putfield 74, 3) := by decide +kernel
theorem dX10_trick_95 : decode cX10_trick 95 = .ok (.aload_n 0, 1) := by decide +kernel
theorem dX10_trick_96 : decode cX10_trick 96 = .ok (.getfield 33, 3) := by decide +kernel
theorem dX10_trick_99 : decode cX10_trick 99 = .ok (.aload_n 0, 1) := by decide +kernel
theorem dX10_trick_100 : decode cX10_trick 100 = .ok (.getfield 23, 3) := by decide +kernel
theorem dX10_trick_103 : decode cX10_trick 103 = .ok (.invokevirtual 77, 3) := by decide +kernel
theorem dX10_trick_106 : decode cX10_trick 106 = .ok (.aload_n 0, 1) := by decide +kernel
theorem dX10_trick_107 : decode cX10_trick 107 = .ok (.aload_n 0, 1) := by decide +kernel
theorem dX10_trick_108 : decode cX10_trick 108 = .ok (.getfield 23, 3) := by decide +kernel
theorem dX10_trick_111 : decode cX10_trick 111 = .ok (.getfield 81, 3) := by decide +kernel
theorem dX10_trick_114 : decode cX10_trick 114 = .ok (.invokevirtual 84, 3) := by decide +kernel
theorem dX10_trick_117 : decode cX10_trick 117 = .ok (.ireturn, 1) := by decide +kernel
theorem dX10_image_0 : decode cX10_image 0 = .ok (.aload_n 0, 1) := by decide +kernel
theorem dX10_image_1 : decode cX10_image 1 = .ok (.getfield 23, 3) := by decide +kernel
theorem dX10_image_4 : decode cX10_image 4 = .ok (.getfield 90, 3) := by decide +kernel
theorem dX10_image_7 : decode cX10_image 7 = .ok (.ifCond .ne 9, 3) := by decide +kernel
theorem dX10_image_10 : decode cX10_image 10 = .ok (.aload_n 0, 1) := by decide +kernel
theorem dX10_image_11 : decode cX10_image 11 = .ok (.iconst 1, 1) := by decide +kernel
theorem dX10_image_12 : decode cX10_image 12 = .ok (.invokevirtual 56, 3) := by decide +kernel
theorem dX10_image_15 : decode cX10_image 15 = .ok (.ireturn, 1) := by decide +kernel
theorem dX10_image_16 : decode cX10_image 16 = .ok (.aload_n 0, 1) := by decide +kernel
theorem dX10_image_17 : decode cX10_image 17 = .ok (.getfield 74, 3) := by decide +kernel
theorem dX10_image_20 : decode cX10_image 20 = .ok (.iconst 3, 1) := by decide +kernel
theorem dX10_image_21 : decode cX10_image 21 = .ok (.if_icmp .lt 9, 3) := by decide +kernel
theorem dX10_image_24 : decode cX10_image 24 = .ok (.aload_n 0, 1) := by decide +kernel
theorem dX10_image_25 : decode cX10_image 25 = .ok (.iconst 3, 1) := by decide +kernel
theorem dX10_image_26 : decode cX10_image 26 = .ok (.invokevirtual 56, 3) := by decide +kernel
theorem dX10_image_29 : decode cX10_image 29 = .ok (.ireturn, 1) := by decide +kernel
theorem dX10_image_30 : decode cX10_image 30 = .ok (.aload_n 0, 1) := by decide +kernel
theorem dX10_image_31 : decode cX10_image 31 = .ok (.getfield 40, 3) := by decide +kernel
theorem dX10_image_34 : decode cX10_image 34 = .ok (.aload_n 0, 1) := by decide +kernel
theorem dX10_image_35 : decode cX10_image 35 = .ok (.getfield 74, 3) := by decide +kernel
theorem dX10_image_38 : decode cX10_image 38 = .ok (.aaload, 1) := by decide +kernel
theorem dX10_image_39 : decode cX10_image 39 = .ok (.aload_n 0, 1) := by decide +kernel
theorem dX10_image_40 : decode cX10_image 40 = .ok (.getfield 23, 3) := by decide +kernel
theorem dX10_image_43 : decode cX10_image 43 = .ok (.getfield 233, 3) := by decide +kernel
theorem dX10_image_46 : decode cX10_image 46 = .ok (.invokevirtual 274, 3) := by decide +kernel
theorem dX10_image_49 : decode cX10_image 49 = .ok (.aload_n 0, 1) := by decide +kernel
theorem dX10_image_50 : decode cX10_image 50 = .ok (.dup, 1) := by decide +kernel
theorem dX10_image_51 : decode cX10_image 51 = .ok (.getfield 74, 3) := by decide +kernel
theorem dX10_image_54 : decode cX10_image 54 = .ok (.iconst 1, 1) := by decide +kernel
theorem dX10_image_55 : decode cX10_image 55 = .ok (.iadd, 1) := by decide +kernel
theorem dX10_image_56 : decode cX10_image 56 = .ok (.putfield 74, 3) := by decide +kernel
theorem dX10_image_59 : decode cX10_image 59 = .ok (.aload_n 0, 1) := by decide +kernel
theorem dX10_image_60 : decode cX10_image 60 = .ok (.aload_n 0, 1) := by decide +kernel
theorem dX10_image_61 : decode cX10_image 61 = .ok (.getfield 74, 3) := by decide +kernel
theorem dX10_image_64 : decode cX10_image 64 = .ok (.iconst 1, 1) := by decide +kernel
theorem dX10_image_65 : decode cX10_image 65 = .ok (.isub, 1) := by decide +kernel
theorem dX10_image_66 : decode cX10_image 66 = .ok (.invokevirtual 84, 3) := by decide +kernel
theorem dX10_image_69 : decode cX10_image 69 = .ok (.ireturn, 1) := by decide +kernel
theorem dX10_back_0 : decode cX10_back 0 = .ok (.iload_n 1, 1) := by decide +kernel
theorem dX10_back_1 : decode cX10_back 1 = .ok (.ifCond .lt 11, 3) := by decide +kernel
theorem dX10_back_4 : decode cX10_back 4 = .ok (.iload_n 1, 1) := by decide +kernel
theorem dX10_back_5 : decode cX10_back 5 = .ok (.aload_n 0, 1) := by decide +kernel
theorem dX10_back_6 : decode cX10_back 6 = .ok (.getfield 74, 3) := by decide +kernel
theorem dX10_back_9 : decode cX10_back 9 = .ok (.if_icmp .lt 9, 3) := by decide +kernel
theorem dX10_back_12 : decode cX10_back 12 = .ok (.aload_n 0, 1) := by decide +kernel
theorem dX10_back_13 : decode cX10_back 13 = .ok (.iconst 1, 1) := by decide +kernel
theorem dX10_back_14 : decode cX10_back 14 = .ok (.invokevirtual 262, 3) := by decide +kernel
theorem dX10_back_17 : decode cX10_back 17 = .ok (.ireturn, 1) := by decide +kernel
theorem dX10_back_18 : decode cX10_back 18 = .ok (.aload_n 0, 1) := by decide +kernel
theorem dX10_back_19 : decode cX10_back 19 = .ok (.getfield 23, 3) := by decide +kernel
theorem dX10_back_22 : decode cX10_back 22 = .ok (.getfield 233, 3) := by decide +kernel
theorem dX10_back_25 : decode cX10_back 25 = .ok (.aload_n 0, 1) := by decide +kernel
theorem dX10_back_26 : decode cX10_back 26 = .ok (.getfield 40, 3) := by decide +kernel
theorem dX10_back_29 : decode cX10_back 29 = .ok (.iload_n 1, 1) := by decide +kernel
theorem dX10_back_30 : decode cX10_back 30 = .ok (.aaload, 1) := by decide +kernel
theorem dX10_back_31 : decode cX10_back 31 = .ok (.invokevirtual 274, 3) := by decide +kernel
theorem dX10_back_34 : decode cX10_back 34 = .ok (.aload_n 0, 1) := by decide +kernel
theorem dX10_back_35 : decode cX10_back 35 = .ok (.invokevirtual 269, 3) := by decide +kernel
theorem dX10_back_38 : decode cX10_back 38 = .ok (.ireturn, 1) := by decide +kernel
set_option maxHeartbeats 4000000 in
set_option maxRecDepth 100000 in
theorem sX7_readKind {l : Launch} {D : va_G} {cA : Nat → ClassId} {base : Nat} {sA : Nat → Nat} {r0 : Nat} {h hE : Zh} {rE : Int32} (hf : fX7_readKind r0 h = some (rE, hE)) : zC l yX7_readKind cX7_readKind 3 (some .int) 6 128 D cA base sA [.ref (base + r0)] h (some (.int rE)) hE := by
  refine g_entry RX7 (by decide) rfl (Nat.le_of_ble_eq_true rfl) ?_
  intro p e s m args below meth c X hr
  unfold fX7_readKind at hf
  have hf := zlet_n (x := h) rfl hf
  show zG p l e { frames := 6, cells := 0, slots := 0, locals := 128 } s m args below meth c (MQ below (zQ D cA base h hE (some (.int rE))) args s 0 0 (zA base)) 3 D cA base h 0 [(0, .ref (base + r0))] [] h
  refine g_aload_n X 0 dX7_readKind_0 rfl ?_
  refine g_ldcS X (i := 13) (tx := "suit") (by decide) dX7_readKind_1 ?_
  obtain ⟨hk1, hf⟩ := zite hf
  obtain ⟨v3, h2, hch2, hf⟩ := zc2_e hf
  refine g_callV X 1 (sX7_is hch2) zf7 hk1 ydX7_is w_ml_RX7_87 w_instanceMethod_X7_is w_sel_X7_is w_ini_RX7 w_code_X7_is (by decide) rfl (st := []) rfl rfl (Nat.le_of_ble_eq_true rfl) dX7_readKind_3 ?_
  refine g_if_eq X 16 dX7_readKind_6 (by decide) (fun hq => ?_) (fun hq => ?_)
  · have hf := zpos hq hf
    refine g_aload_n X 0 dX7_readKind_16 rfl ?_
    refine g_ldcS X (i := 14) (tx := "table") (by decide) dX7_readKind_17 ?_
    obtain ⟨v5, h4, hch4, hf⟩ := zc2_e hf
    refine g_callV X 1 (sX7_is hch4) zf7 hk1 ydX7_is w_ml_RX7_87 w_instanceMethod_X7_is w_sel_X7_is w_ini_RX7 w_code_X7_is (by decide) rfl (st := []) rfl rfl (Nat.le_of_ble_eq_true rfl) dX7_readKind_19 ?_
    refine g_if_eq X 32 dX7_readKind_22 (by decide) (fun hq => ?_) (fun hq => ?_)
    · have hf := zpos hq hf
      refine g_aload_n X 0 dX7_readKind_32 rfl ?_
      refine g_ldcS X (i := 15) (tx := "keeps") (by decide) dX7_readKind_33 ?_
      obtain ⟨v7, h6, hch6, hf⟩ := zc2_e hf
      refine g_callV X 1 (sX7_pass hch6) zf7 hk1 ydX7_pass w_ml_RX7_150 w_instanceMethod_X7_pass w_sel_X7_pass w_ini_RX7 w_code_X7_pass (by decide) rfl (st := []) rfl rfl (Nat.le_of_ble_eq_true rfl) dX7_readKind_35 ?_
      refine g_if_ne X 43 dX7_readKind_38 (by decide) (fun hq => ?_) (fun hq => ?_)
      · have hf := zneg hq hf
        refine g_aload_n X 0 dX7_readKind_43 rfl ?_
        obtain ⟨v9, h8, hch8, hf⟩ := zc2_e hf
        refine g_callV X 0 (sX7_keepWord hch8) zf7 hk1 ydX7_keepWord w_ml_RX7_200 w_instanceMethod_X7_keepWord w_sel_X7_keepWord w_ini_RX7 w_code_X7_keepWord (by decide) rfl (st := []) rfl rfl (Nat.le_of_ble_eq_true rfl) dX7_readKind_44 ?_
        refine g_istore_n X [(1, .int v9), (0, .ref (base + r0))] dX7_readKind_47 (by decide) rfl ?_
        refine g_iload_n X 0 dX7_readKind_48 rfl ?_
        refine g_if_ge X 60 dX7_readKind_49 (by decide) (fun hq => ?_) (fun hq => ?_)
        · have hf := zpos hq hf
          refine g_aload_n X 1 dX7_readKind_60 rfl ?_
          obtain ⟨h10, hch10, hf⟩ := zbd hf
          refine g_callV X 0 (sX7_step hch10) zf7 hk1 ydX7_step w_ml_RX7_54 w_instanceMethod_X7_step w_sel_X7_step w_ini_RX7 w_code_X7_step (by decide) rfl (st := []) rfl rfl (Nat.le_of_ble_eq_true rfl) dX7_readKind_61 ?_
          refine g_aload_n X 1 dX7_readKind_64 rfl ?_
          refine g_ldcS X (i := 20) (tx := "tells") (by decide) dX7_readKind_65 ?_
          obtain ⟨v12, h11, hch11, hf⟩ := zc2_e hf
          refine g_callV X 1 (sX7_pass hch11) zf7 hk1 ydX7_pass w_ml_RX7_150 w_instanceMethod_X7_pass w_sel_X7_pass w_ini_RX7 w_code_X7_pass (by decide) rfl (st := []) rfl rfl (Nat.le_of_ble_eq_true rfl) dX7_readKind_67 ?_
          refine g_if_ne X 75 dX7_readKind_70 (by decide) (fun hq => ?_) (fun hq => ?_)
          · have hf := zneg hq hf
            refine g_aload_n X 1 dX7_readKind_75 rfl ?_
            obtain ⟨v14, h13, hch13, hf⟩ := zc2_e hf
            refine g_callV X 0 (sX7_tellWord hch13) zf7 hk1 ydX7_tellWord w_ml_RX7_205 w_instanceMethod_X7_tellWord w_sel_X7_tellWord w_ini_RX7 w_code_X7_tellWord (by decide) rfl (st := []) rfl rfl (Nat.le_of_ble_eq_true rfl) dX7_readKind_76 ?_
            refine g_istore_n X [(2, .int v14), (1, .int v9), (0, .ref (base + r0))] dX7_readKind_79 (by decide) rfl ?_
            refine g_iload_n X 0 dX7_readKind_80 rfl ?_
            refine g_if_ge X 92 dX7_readKind_81 (by decide) (fun hq => ?_) (fun hq => ?_)
            · have hf := zpos hq hf
              refine g_aload_n X 2 dX7_readKind_92 rfl ?_
              obtain ⟨h15, hch15, hf⟩ := zbd hf
              refine g_callV X 0 (sX7_step hch15) zf7 hk1 ydX7_step w_ml_RX7_54 w_instanceMethod_X7_step w_sel_X7_step w_ini_RX7 w_code_X7_step (by decide) rfl (st := []) rfl rfl (Nat.le_of_ble_eq_true rfl) dX7_readKind_93 ?_
              refine g_iconst X (v := 5) dX7_readKind_96 (by decide) ?_
              refine g_iload_n X 1 dX7_readKind_97 rfl ?_
              refine g_imul X dX7_readKind_98 ?_
              refine g_iload_n X 0 dX7_readKind_99 rfl ?_
              refine g_iadd X dX7_readKind_100 ?_
              obtain ⟨rfl, rfl⟩ := zsm hf
              exact g_iret X hr dX7_readKind_101
            · have hf := zneg hq hf
              refine g_aload_n X 2 dX7_readKind_84 rfl ?_
              refine g_iconst X (v := 1) dX7_readKind_85 (by decide) ?_
              obtain ⟨v17, h16, hch16, hf⟩ := zc2_e hf
              refine g_callV X 1 (sX7_fail hch16) zf7 hk1 ydX7_fail w_ml_RX7_64 w_instanceMethod_X7_fail w_sel_X7_fail w_ini_RX7 w_code_X7_fail (by decide) rfl (st := []) rfl rfl (Nat.le_of_ble_eq_true rfl) dX7_readKind_86 ?_
              refine g_pop X dX7_readKind_89 rfl ?_
              refine g_iconst X (v := -1) dX7_readKind_90 (by decide) ?_
              obtain ⟨rfl, rfl⟩ := zsm hf
              exact g_iret X hr dX7_readKind_91
          · have hf := zpos hq hf
            refine g_iconst X (v := -1) dX7_readKind_73 (by decide) ?_
            obtain ⟨rfl, rfl⟩ := zsm hf
            exact g_iret X hr dX7_readKind_74
        · have hf := zneg hq hf
          refine g_aload_n X 1 dX7_readKind_52 rfl ?_
          refine g_iconst X (v := 1) dX7_readKind_53 (by decide) ?_
          obtain ⟨v19, h18, hch18, hf⟩ := zc2_e hf
          refine g_callV X 1 (sX7_fail hch18) zf7 hk1 ydX7_fail w_ml_RX7_64 w_instanceMethod_X7_fail w_sel_X7_fail w_ini_RX7 w_code_X7_fail (by decide) rfl (st := []) rfl rfl (Nat.le_of_ble_eq_true rfl) dX7_readKind_54 ?_
          refine g_pop X dX7_readKind_57 rfl ?_
          refine g_iconst X (v := -1) dX7_readKind_58 (by decide) ?_
          obtain ⟨rfl, rfl⟩ := zsm hf
          exact g_iret X hr dX7_readKind_59
      · have hf := zpos hq hf
        refine g_iconst X (v := -1) dX7_readKind_41 (by decide) ?_
        obtain ⟨rfl, rfl⟩ := zsm hf
        exact g_iret X hr dX7_readKind_42
    · have hf := zneg hq hf
      refine g_aload_n X 0 dX7_readKind_25 rfl ?_
      obtain ⟨h20, hch20, hf⟩ := zbd hf
      refine g_callV X 0 (sX7_step hch20) zf7 hk1 ydX7_step w_ml_RX7_54 w_instanceMethod_X7_step w_sel_X7_step w_ini_RX7 w_code_X7_step (by decide) rfl (st := []) rfl rfl (Nat.le_of_ble_eq_true rfl) dX7_readKind_26 ?_
      refine g_bipush X (v := 21) dX7_readKind_29 (by decide) ?_
      obtain ⟨rfl, rfl⟩ := zsm hf
      exact g_iret X hr dX7_readKind_31
  · have hf := zneg hq hf
    refine g_aload_n X 0 dX7_readKind_9 rfl ?_
    obtain ⟨h21, hch21, hf⟩ := zbd hf
    refine g_callV X 0 (sX7_step hch21) zf7 hk1 ydX7_step w_ml_RX7_54 w_instanceMethod_X7_step w_sel_X7_step w_ini_RX7 w_code_X7_step (by decide) rfl (st := []) rfl rfl (Nat.le_of_ble_eq_true rfl) dX7_readKind_10 ?_
    refine g_bipush X (v := 20) dX7_readKind_13 (by decide) ?_
    obtain ⟨rfl, rfl⟩ := zsm hf
    exact g_iret X hr dX7_readKind_15

set_option maxHeartbeats 4000000 in
set_option maxRecDepth 100000 in
theorem sX7_readRule {l : Launch} {D : va_G} {cA : Nat → ClassId} {base : Nat} {sA : Nat → Nat} {r0 : Nat} {h hE : Zh} {rE : Int32} (hf : fX7_readRule r0 h = some (rE, hE)) : zC l yX7_readRule cX7_readRule 2 (some .boolean) 7 150 D cA base sA [.ref (base + r0)] h (some (.int rE)) hE := by
  refine g_entry RX7 (by decide) rfl (Nat.le_of_ble_eq_true rfl) ?_
  intro p e s m args below meth c X hr
  unfold fX7_readRule at hf
  have hf := zlet_n (x := h) rfl hf
  show zG p l e { frames := 7, cells := 0, slots := 0, locals := 150 } s m args below meth c (MQ below (zQ D cA base h hE (some (.int rE))) args s 0 0 (zA base)) 2 D cA base h 0 [(0, .ref (base + r0))] [] h
  refine g_aload_n X 0 dX7_readRule_0 rfl ?_
  obtain ⟨hk1, hf⟩ := zite hf
  obtain ⟨r_2, hr_2, hf⟩ := zbd hf
  refine g_get X zf7 hk1 4 (by decide) w_f_RX7_18 rfl (zfv_r hr_2 rfl) dX7_readRule_1 ?_
  obtain ⟨hk3, hf⟩ := zite hf
  refine g_get X zf9 hk3 0 (by decide) w_f_RX7_110 rfl rfl dX7_readRule_4 ?_
  refine g_if_ne X 17 dX7_readRule_7 (by decide) (fun hq => ?_) (fun hq => ?_)
  · have hf := zneg hq hf
    refine g_aload_n X 0 dX7_readRule_17 rfl ?_
    obtain ⟨r_4, hr_4, hf⟩ := zbd hf
    refine g_get X zf7 hk1 4 (by decide) w_f_RX7_18 rfl (zfv_r hr_4 rfl) dX7_readRule_18 ?_
    obtain ⟨hk5, hf⟩ := zite hf
    refine g_get X zf9 hk5 3 (by decide) w_f_RX7_175 rfl rfl dX7_readRule_21 ?_
    refine g_iconst X (v := 4) dX7_readRule_24 (by decide) ?_
    refine g_icmp_lt X 34 dX7_readRule_25 (by decide) (fun hq => ?_) (fun hq => ?_)
    · have hf := zpos hq hf
      refine g_aload_n X 0 dX7_readRule_34 rfl ?_
      obtain ⟨h6, hch6, hf⟩ := zbd hf
      refine g_callV X 0 (sX7_step hch6) zf7 hk1 ydX7_step w_ml_RX7_54 w_instanceMethod_X7_step w_sel_X7_step w_ini_RX7 w_code_X7_step (by decide) rfl (st := []) rfl rfl (Nat.le_of_ble_eq_true rfl) dX7_readRule_35 ?_
      refine g_aload_n X 0 dX7_readRule_38 rfl ?_
      obtain ⟨v8, h7, hch7, hf⟩ := zc2_e hf
      refine g_callV X 0 (sX7_readName hch7) zf7 hk1 ydX7_readName w_ml_RX7_178 w_instanceMethod_X7_readName w_sel_X7_readName w_ini_RX7 w_code_X7_readName (by decide) rfl (st := []) rfl rfl (Nat.le_of_ble_eq_true rfl) dX7_readRule_39 ?_
      refine g_if_ne X 47 dX7_readRule_42 (by decide) (fun hq => ?_) (fun hq => ?_)
      · have hf := zneg hq hf
        refine g_aload_n X 0 dX7_readRule_47 rfl ?_
        obtain ⟨v10, h9, hch9, hf⟩ := zc2_e hf
        refine g_callV X 0 (sX7_readKind hch9) zf7 hk1 ydX7_readKind w_ml_RX7_181 w_instanceMethod_X7_readKind w_sel_X7_readKind w_ini_RX7 w_code_X7_readKind (by decide) rfl (st := []) rfl rfl (Nat.le_of_ble_eq_true rfl) dX7_readRule_48 ?_
        refine g_istore_n X [(1, .int v10), (0, .ref (base + r0))] dX7_readRule_51 (by decide) rfl ?_
        refine g_iload_n X 0 dX7_readRule_52 rfl ?_
        refine g_if_ge X 58 dX7_readRule_53 (by decide) (fun hq => ?_) (fun hq => ?_)
        · have hf := zpos hq hf
          refine g_aload_n X 1 dX7_readRule_58 rfl ?_
          obtain ⟨r_11, hr_11, hf⟩ := zbd hf
          refine g_get X zf7 hk1 4 (by decide) w_f_RX7_18 rfl (zfv_r hr_11 rfl) dX7_readRule_59 ?_
          obtain ⟨hk12, hf⟩ := zite hf
          obtain ⟨r_13, hr_13, hf⟩ := zbd hf
          refine g_get X zf9 hk12 2 (by decide) w_f_RX7_184 rfl (zfv_r hr_13 rfl) dX7_readRule_62 ?_
          refine g_aload_n X 1 dX7_readRule_65 rfl ?_
          obtain ⟨r_14, hr_14, hf⟩ := zbd hf
          refine g_get X zf7 hk1 4 (by decide) w_f_RX7_18 rfl (zfv_r hr_14 rfl) dX7_readRule_66 ?_
          obtain ⟨hk15, hf⟩ := zite hf
          refine g_get X zf9 hk15 3 (by decide) w_f_RX7_175 rfl rfl dX7_readRule_69 ?_
          refine g_iload_n X 0 dX7_readRule_72 rfl ?_
          obtain ⟨hk16, hf⟩ := zite hf
          obtain ⟨hi17, hf⟩ := zite hf
          refine g_iast X hk16 hi17 dX7_readRule_73 ?_
          refine g_hp (fun h18 eh18 => ?_)
          have hf := zlet_n eh18 hf
          refine g_aload_n X 1 dX7_readRule_74 rfl ?_
          obtain ⟨r_19, hr_19, hf⟩ := zbd hf
          refine g_get X zf7 hk1 4 (by decide) w_f_RX7_18 rfl (zfv_r hr_19 rfl) dX7_readRule_75 ?_
          refine g_dup X dX7_readRule_78 rfl ?_
          obtain ⟨hk20, hf⟩ := zite hf
          refine g_get X zf9 hk20 3 (by decide) w_f_RX7_175 rfl rfl dX7_readRule_79 ?_
          refine g_iconst X (v := 1) dX7_readRule_82 (by decide) ?_
          refine g_iadd X dX7_readRule_83 ?_
          refine g_putI X zf9 hk20 3 (by decide) w_f_RX7_175 rfl rfl rfl dX7_readRule_84 ?_
          refine g_hp (fun h21 eh21 => ?_)
          have hf := zlet_n eh21 hf
          refine g_iconst X (v := 1) dX7_readRule_87 (by decide) ?_
          obtain ⟨rfl, rfl⟩ := zsm hf
          exact g_zret X (Or.inr rfl) hr dX7_readRule_88
        · have hf := zneg hq hf
          refine g_iconst X (v := 0) dX7_readRule_56 (by decide) ?_
          obtain ⟨rfl, rfl⟩ := zsm hf
          exact g_zret X (Or.inl rfl) hr dX7_readRule_57
      · have hf := zpos hq hf
        refine g_iconst X (v := 0) dX7_readRule_45 (by decide) ?_
        obtain ⟨rfl, rfl⟩ := zsm hf
        exact g_zret X (Or.inl rfl) hr dX7_readRule_46
    · have hf := zneg hq hf
      refine g_aload_n X 0 dX7_readRule_28 rfl ?_
      refine g_iconst X (v := 5) dX7_readRule_29 (by decide) ?_
      obtain ⟨v23, h22, hch22, hf⟩ := zc2_e hf
      refine g_callV X 1 (sX7_fail hch22) zf7 hk1 ydX7_fail w_ml_RX7_64 w_instanceMethod_X7_fail w_sel_X7_fail w_ini_RX7 w_code_X7_fail (by decide) rfl (st := []) rfl rfl (Nat.le_of_ble_eq_true rfl) dX7_readRule_30 ?_
      obtain ⟨hb24, hf⟩ := zite hf
      obtain ⟨rfl, rfl⟩ := zsm hf
      exact g_zret X hb24 hr dX7_readRule_33
  · have hf := zpos hq hf
    refine g_aload_n X 0 dX7_readRule_10 rfl ?_
    refine g_bipush X (v := 6) dX7_readRule_11 (by decide) ?_
    obtain ⟨v26, h25, hch25, hf⟩ := zc2_e hf
    refine g_callV X 1 (sX7_fail hch25) zf7 hk1 ydX7_fail w_ml_RX7_64 w_instanceMethod_X7_fail w_sel_X7_fail w_ini_RX7 w_code_X7_fail (by decide) rfl (st := []) rfl rfl (Nat.le_of_ble_eq_true rfl) dX7_readRule_13 ?_
    obtain ⟨hb27, hf⟩ := zite hf
    obtain ⟨rfl, rfl⟩ := zsm hf
    exact g_zret X hb27 hr dX7_readRule_16

set_option maxHeartbeats 4000000 in
set_option maxRecDepth 100000 in
theorem sX7_readEvening {l : Launch} {D : va_G} {cA : Nat → ClassId} {base : Nat} {sA : Nat → Nat} {r0 : Nat} {h hE : Zh} {rE : Int32} (hf : fX7_readEvening r0 h = some (rE, hE)) : zC l yX7_readEvening cX7_readEvening 5 (some .boolean) 6 128 D cA base sA [.ref (base + r0)] h (some (.int rE)) hE := by
  refine g_entry RX7 (by decide) rfl (Nat.le_of_ble_eq_true rfl) ?_
  intro p e s m args below meth c X hr
  unfold fX7_readEvening at hf
  have hf := zlet_n (x := h) rfl hf
  show zG p l e { frames := 6, cells := 0, slots := 0, locals := 128 } s m args below meth c (MQ below (zQ D cA base h hE (some (.int rE))) args s 0 0 (zA base)) 5 D cA base h 0 [(0, .ref (base + r0))] [] h
  refine g_aload_n X 0 dX7_readEvening_0 rfl ?_
  obtain ⟨hk1, hf⟩ := zite hf
  obtain ⟨r_2, hr_2, hf⟩ := zbd hf
  refine g_get X zf7 hk1 4 (by decide) w_f_RX7_18 rfl (zfv_r hr_2 rfl) dX7_readEvening_1 ?_
  obtain ⟨hk3, hf⟩ := zite hf
  refine g_get X zf9 hk3 0 (by decide) w_f_RX7_110 rfl rfl dX7_readEvening_4 ?_
  refine g_if_ne X 17 dX7_readEvening_7 (by decide) (fun hq => ?_) (fun hq => ?_)
  · have hf := zneg hq hf
    refine g_aload_n X 0 dX7_readEvening_17 rfl ?_
    obtain ⟨r_4, hr_4, hf⟩ := zbd hf
    refine g_get X zf7 hk1 4 (by decide) w_f_RX7_18 rfl (zfv_r hr_4 rfl) dX7_readEvening_18 ?_
    obtain ⟨hk5, hf⟩ := zite hf
    obtain ⟨r_6, hr_6, hf⟩ := zbd hf
    refine g_get X zf9 hk5 4 (by decide) w_f_RX7_224 rfl (zfv_r hr_6 rfl) dX7_readEvening_21 ?_
    obtain ⟨hk7, hf⟩ := zite hf
    refine g_get X zf1 hk7 2 (by decide) w_f_RX7_228 rfl rfl dX7_readEvening_24 ?_
    refine g_bipush X (v := 9) dX7_readEvening_27 (by decide) ?_
    refine g_icmp_lt X 38 dX7_readEvening_29 (by decide) (fun hq => ?_) (fun hq => ?_)
    · have hf := zpos hq hf
      refine g_aload_n X 0 dX7_readEvening_38 rfl ?_
      obtain ⟨h8, hch8, hf⟩ := zbd hf
      refine g_callV X 0 (sX7_step hch8) zf7 hk1 ydX7_step w_ml_RX7_54 w_instanceMethod_X7_step w_sel_X7_step w_ini_RX7 w_code_X7_step (by decide) rfl (st := []) rfl rfl (Nat.le_of_ble_eq_true rfl) dX7_readEvening_39 ?_
      refine g_aload_n X 0 dX7_readEvening_42 rfl ?_
      obtain ⟨r_9, hr_9, hf⟩ := zbd hf
      refine g_get X zf7 hk1 4 (by decide) w_f_RX7_18 rfl (zfv_r hr_9 rfl) dX7_readEvening_43 ?_
      obtain ⟨hk10, hf⟩ := zite hf
      obtain ⟨r_11, hr_11, hf⟩ := zbd hf
      refine g_get X zf9 hk10 1 (by decide) w_f_RX7_114 rfl (zfv_r hr_11 rfl) dX7_readEvening_46 ?_
      refine g_astore_n X [(1, .ref (base + r_11)), (0, .ref (base + r0))] dX7_readEvening_49 (by decide) rfl ?_
      refine g_aload_n X 1 dX7_readEvening_50 rfl ?_
      refine g_aload_n X 0 dX7_readEvening_51 rfl ?_
      obtain ⟨hk12, hf⟩ := zite hf
      refine g_get X zf0 hk12 3 (by decide) w_f_RX7_134 rfl rfl dX7_readEvening_52 ?_
      obtain ⟨v14, h13, hch13, hf⟩ := zc2_e hf
      refine g_callV X 1 (sX7_readCards hch13) zf7 hk1 ydX7_readCards w_ml_RX7_232 w_instanceMethod_X7_readCards w_sel_X7_readCards w_ini_RX7 w_code_X7_readCards (by decide) rfl (st := []) rfl rfl (Nat.le_of_ble_eq_true rfl) dX7_readEvening_55 ?_
      refine g_if_ne X 63 dX7_readEvening_58 (by decide) (fun hq => ?_) (fun hq => ?_)
      · have hf := zneg hq hf
        refine g_aload_n X 0 dX7_readEvening_63 rfl ?_
        refine g_aload_n X 1 dX7_readEvening_64 rfl ?_
        obtain ⟨r_15, hr_15, hf⟩ := zbd hf
        refine g_get X zf7 hk1 7 (by decide) w_f_RX7_29 rfl (zfv_r hr_15 rfl) dX7_readEvening_65 ?_
        obtain ⟨v17, h16, hch16, hf⟩ := zc2_e hf
        refine g_callV X 1 (sX0_handNumber hch16) zf0 hk12 ydX0_handNumber w_ml_RX7_235 w_instanceMethod_X0_handNumber w_sel_X0_handNumber w_ini_RX0 w_code_X0_handNumber (by decide) rfl (st := []) rfl rfl (Nat.le_of_ble_eq_true rfl) dX7_readEvening_68 ?_
        refine g_istore_n X [(2, .int v17), (1, .ref (base + r_11)), (0, .ref (base + r0))] dX7_readEvening_71 (by decide) rfl ?_
        refine g_aload_n X 2 dX7_readEvening_72 rfl ?_
        refine g_ldcS X (i := 11) (tx := "shows") (by decide) dX7_readEvening_73 ?_
        obtain ⟨v19, h18, hch18, hf⟩ := zc2_e hf
        refine g_callV X 1 (sX7_pass hch18) zf7 hk1 ydX7_pass w_ml_RX7_150 w_instanceMethod_X7_pass w_sel_X7_pass w_ini_RX7 w_code_X7_pass (by decide) rfl (st := []) rfl rfl (Nat.le_of_ble_eq_true rfl) dX7_readEvening_75 ?_
        refine g_if_eq X 92 dX7_readEvening_78 (by decide) (fun hq => ?_) (fun hq => ?_)
        · have hf := zpos hq hf
          refine g_iconst X (v := 0) dX7_readEvening_92 (by decide) ?_
          obtain ⟨rfl, rfl⟩ := zsm hf
          exact g_zret X (Or.inl rfl) hr dX7_readEvening_93
        · have hf := zneg hq hf
          refine g_aload_n X 2 dX7_readEvening_81 rfl ?_
          refine g_aload_n X 1 dX7_readEvening_82 rfl ?_
          refine g_get X zf0 hk12 5 (by decide) w_f_RX7_239 rfl rfl dX7_readEvening_83 ?_
          obtain ⟨v21, h20, hch20, hf⟩ := zc2_e hf
          refine g_callV X 1 (sX7_readCards hch20) zf7 hk1 ydX7_readCards w_ml_RX7_232 w_instanceMethod_X7_readCards w_sel_X7_readCards w_ini_RX7 w_code_X7_readCards (by decide) rfl (st := []) rfl rfl (Nat.le_of_ble_eq_true rfl) dX7_readEvening_86 ?_
          refine g_if_ne X 94 dX7_readEvening_89 (by decide) (fun hq => ?_) (fun hq => ?_)
          · have hf := zneg hq hf
            refine g_aload_n X 1 dX7_readEvening_94 rfl ?_
            refine g_aload_n X 2 dX7_readEvening_95 rfl ?_
            obtain ⟨r_22, hr_22, hf⟩ := zbd hf
            refine g_get X zf7 hk1 7 (by decide) w_f_RX7_29 rfl (zfv_r hr_22 rfl) dX7_readEvening_96 ?_
            refine g_aload_n X 1 dX7_readEvening_99 rfl ?_
            refine g_get X zf0 hk12 5 (by decide) w_f_RX7_239 rfl rfl dX7_readEvening_100 ?_
            obtain ⟨v24, h23, hch23, hf⟩ := zc2_e hf
            refine g_callV X 2 (sX0_rowNumber hch23) zf0 hk12 ydX0_rowNumber w_ml_RX7_242 w_instanceMethod_X0_rowNumber w_sel_X0_rowNumber w_ini_RX0 w_code_X0_rowNumber (by decide) rfl (st := []) rfl rfl (Nat.le_of_ble_eq_true rfl) dX7_readEvening_103 ?_
            refine g_aload_n X 1 dX7_readEvening_106 rfl ?_
            refine g_get X zf0 hk12 12 (by decide) w_f_RX7_246 rfl rfl dX7_readEvening_107 ?_
            refine g_imul X dX7_readEvening_110 ?_
            refine g_topi (fun y25 ey25 => ?_)
            have hf := zlet_n ey25 hf
            refine g_istore_n X [(3, .int y25), (2, .int v17), (1, .ref (base + r_11)), (0, .ref (base + r0))] dX7_readEvening_111 (by decide) rfl ?_
            refine g_iconst X (v := 0) dX7_readEvening_112 (by decide) ?_
            refine g_istore X [(4, .int ((0 : Int32))), (3, .int y25), (2, .int v17), (1, .ref (base + r_11)), (0, .ref (base + r0))] dX7_readEvening_113 (by decide) rfl ?_
            refine g_aload_n X 3 dX7_readEvening_115 rfl ?_
            refine g_get X zf0 hk12 8 (by decide) w_f_RX7_173 rfl rfl dX7_readEvening_116 ?_
            have hJ152 : ∀ (x2_152 : Int32) (x3_152 : Int32) (x4_152 : Int32) (h_152 : Zh), jX7_readEvening_152 h r0 x2_152 x3_152 x4_152 h_152 = some (rE, hE) → zG p l e { frames := 6, cells := 0, slots := 0, locals := 128 } s m args below meth c (MQ below (zQ D cA base h hE (some (.int rE))) args s 0 0 (zA base)) 5 D cA base h 152 [(0, .ref (base + r0)), (2, .int x2_152), (3, .int x3_152), (4, .int x4_152)] [] h_152 := by
              intro x2_152 x3_152 x4_152 h_152 hf
              unfold jX7_readEvening_152 at hf
              refine g_aload_n X 0 dX7_readEvening_152 rfl ?_
              obtain ⟨r_26, hr_26, hf⟩ := zbd hf
              refine g_get X zf7 hk1 4 (by decide) w_f_RX7_18 rfl (zfv_r hr_26 rfl) dX7_readEvening_153 ?_
              obtain ⟨hk27, hf⟩ := zite hf
              obtain ⟨r_28, hr_28, hf⟩ := zbd hf
              refine g_get X zf9 hk27 4 (by decide) w_f_RX7_224 rfl (zfv_r hr_28 rfl) dX7_readEvening_156 ?_
              refine g_iload_n X 1 dX7_readEvening_159 rfl ?_
              refine g_iload_n X 2 dX7_readEvening_160 rfl ?_
              refine g_iload X 3 dX7_readEvening_161 rfl ?_
              refine g_iadd X dX7_readEvening_163 ?_
              obtain ⟨hk29, hf⟩ := zite hf
              obtain ⟨h30, hch30, hf⟩ := zbd hf
              refine g_callV X 2 (sX1_add hch30) zf1 hk29 ydX1_add w_ml_RX7_253 w_instanceMethod_X1_add w_sel_X1_add w_ini_RX1 w_code_X1_add (by decide) rfl (st := []) rfl rfl (Nat.le_of_ble_eq_true rfl) dX7_readEvening_164 ?_
              refine g_iconst X (v := 1) dX7_readEvening_167 (by decide) ?_
              obtain ⟨rfl, rfl⟩ := zsm hf
              exact g_zret X (Or.inr rfl) hr dX7_readEvening_168
            refine g_if_eq X 152 dX7_readEvening_119 (by decide) (fun hq => ?_) (fun hq => ?_)
            · have hf := zpos hq hf
              refine g_sub [4, 2, 1, 0] rfl ?_
              exact hJ152 _ _ _ _ hf
            · have hf := zneg hq hf
              refine g_aload_n X 4 dX7_readEvening_122 rfl ?_
              refine g_ldcS X (i := 12) (tx := "tilted") (by decide) dX7_readEvening_123 ?_
              obtain ⟨v32, h31, hch31, hf⟩ := zc2_e hf
              refine g_callV X 1 (sX7_is hch31) zf7 hk1 ydX7_is w_ml_RX7_87 w_instanceMethod_X7_is w_sel_X7_is w_ini_RX7 w_code_X7_is (by decide) rfl (st := []) rfl rfl (Nat.le_of_ble_eq_true rfl) dX7_readEvening_125 ?_
              refine g_if_eq X 152 dX7_readEvening_128 (by decide) (fun hq => ?_) (fun hq => ?_)
              · have hf := zpos hq hf
                refine g_sub [4, 2, 1, 0] rfl ?_
                exact hJ152 _ _ _ _ hf
              · have hf := zneg hq hf
                refine g_aload_n X 4 dX7_readEvening_131 rfl ?_
                obtain ⟨h33, hch33, hf⟩ := zbd hf
                refine g_callV X 0 (sX7_step hch33) zf7 hk1 ydX7_step w_ml_RX7_54 w_instanceMethod_X7_step w_sel_X7_step w_ini_RX7 w_code_X7_step (by decide) rfl (st := []) rfl rfl (Nat.le_of_ble_eq_true rfl) dX7_readEvening_132 ?_
                refine g_aload_n X 4 dX7_readEvening_135 rfl ?_
                refine g_aload_n X 3 dX7_readEvening_136 rfl ?_
                refine g_get X zf0 hk12 5 (by decide) w_f_RX7_239 rfl rfl dX7_readEvening_137 ?_
                obtain ⟨v35, h34, hch34, hf⟩ := zc2_e hf
                refine g_callV X 1 (sX7_readTilts hch34) zf7 hk1 ydX7_readTilts w_ml_RX7_249 w_instanceMethod_X7_readTilts w_sel_X7_readTilts w_ini_RX7 w_code_X7_readTilts (by decide) rfl (st := []) rfl rfl (Nat.le_of_ble_eq_true rfl) dX7_readEvening_140 ?_
                refine g_istore X [(4, .int v35), (3, .int y25), (2, .int v17), (1, .ref (base + r_11)), (0, .ref (base + r0))] dX7_readEvening_143 (by decide) rfl ?_
                refine g_iload X 0 dX7_readEvening_145 rfl ?_
                refine g_if_ge X 152 dX7_readEvening_147 (by decide) (fun hq => ?_) (fun hq => ?_)
                · have hf := zpos hq hf
                  refine g_sub [4, 2, 1, 0] rfl ?_
                  exact hJ152 _ _ _ _ hf
                · have hf := zneg hq hf
                  refine g_iconst X (v := 0) dX7_readEvening_150 (by decide) ?_
                  obtain ⟨rfl, rfl⟩ := zsm hf
                  exact g_zret X (Or.inl rfl) hr dX7_readEvening_151
          · have hf := zpos hq hf
            refine g_iconst X (v := 0) dX7_readEvening_92 (by decide) ?_
            obtain ⟨rfl, rfl⟩ := zsm hf
            exact g_zret X (Or.inl rfl) hr dX7_readEvening_93
      · have hf := zpos hq hf
        refine g_iconst X (v := 0) dX7_readEvening_61 (by decide) ?_
        obtain ⟨rfl, rfl⟩ := zsm hf
        exact g_zret X (Or.inl rfl) hr dX7_readEvening_62
    · have hf := zneg hq hf
      refine g_aload_n X 0 dX7_readEvening_32 rfl ?_
      refine g_iconst X (v := 5) dX7_readEvening_33 (by decide) ?_
      obtain ⟨v37, h36, hch36, hf⟩ := zc2_e hf
      refine g_callV X 1 (sX7_fail hch36) zf7 hk1 ydX7_fail w_ml_RX7_64 w_instanceMethod_X7_fail w_sel_X7_fail w_ini_RX7 w_code_X7_fail (by decide) rfl (st := []) rfl rfl (Nat.le_of_ble_eq_true rfl) dX7_readEvening_34 ?_
      obtain ⟨hb38, hf⟩ := zite hf
      obtain ⟨rfl, rfl⟩ := zsm hf
      exact g_zret X hb38 hr dX7_readEvening_37
  · have hf := zpos hq hf
    refine g_aload_n X 0 dX7_readEvening_10 rfl ?_
    refine g_bipush X (v := 6) dX7_readEvening_11 (by decide) ?_
    obtain ⟨v40, h39, hch39, hf⟩ := zc2_e hf
    refine g_callV X 1 (sX7_fail hch39) zf7 hk1 ydX7_fail w_ml_RX7_64 w_instanceMethod_X7_fail w_sel_X7_fail w_ini_RX7 w_code_X7_fail (by decide) rfl (st := []) rfl rfl (Nat.le_of_ble_eq_true rfl) dX7_readEvening_13 ?_
    obtain ⟨hb41, hf⟩ := zite hf
    obtain ⟨rfl, rfl⟩ := zsm hf
    exact g_zret X hb41 hr dX7_readEvening_16

set_option maxHeartbeats 4000000 in
set_option maxRecDepth 100000 in
theorem sX7_readLine {l : Launch} {D : va_G} {cA : Nat → ClassId} {base : Nat} {sA : Nat → Nat} {r0 : Nat} {h hE : Zh} {rE : Int32} (hf : fX7_readLine r0 h = some (rE, hE)) : zC l yX7_readLine cX7_readLine 1 (some .boolean) 8 171 D cA base sA [.ref (base + r0)] h (some (.int rE)) hE := by
  refine g_entry RX7 (by decide) rfl (Nat.le_of_ble_eq_true rfl) ?_
  intro p e s m args below meth c X hr
  unfold fX7_readLine at hf
  have hf := zlet_n (x := h) rfl hf
  show zG p l e { frames := 8, cells := 0, slots := 0, locals := 171 } s m args below meth c (MQ below (zQ D cA base h hE (some (.int rE))) args s 0 0 (zA base)) 1 D cA base h 0 [(0, .ref (base + r0))] [] h
  refine g_aload_n X 0 dX7_readLine_0 rfl ?_
  refine g_ldcS X (i := 0) (tx := "trick") (by decide) dX7_readLine_1 ?_
  obtain ⟨hk1, hf⟩ := zite hf
  obtain ⟨v3, h2, hch2, hf⟩ := zc2_e hf
  refine g_callV X 1 (sX7_is hch2) zf7 hk1 ydX7_is w_ml_RX7_87 w_instanceMethod_X7_is w_sel_X7_is w_ini_RX7 w_code_X7_is (by decide) rfl (st := []) rfl rfl (Nat.le_of_ble_eq_true rfl) dX7_readLine_3 ?_
  refine g_if_eq X 14 dX7_readLine_6 (by decide) (fun hq => ?_) (fun hq => ?_)
  · have hf := zpos hq hf
    refine g_aload_n X 0 dX7_readLine_14 rfl ?_
    refine g_ldcS X (i := 9) (tx := "rule") (by decide) dX7_readLine_15 ?_
    obtain ⟨v5, h4, hch4, hf⟩ := zc2_e hf
    refine g_callV X 1 (sX7_is hch4) zf7 hk1 ydX7_is w_ml_RX7_87 w_instanceMethod_X7_is w_sel_X7_is w_ini_RX7 w_code_X7_is (by decide) rfl (st := []) rfl rfl (Nat.le_of_ble_eq_true rfl) dX7_readLine_17 ?_
    refine g_if_eq X 28 dX7_readLine_20 (by decide) (fun hq => ?_) (fun hq => ?_)
    · have hf := zpos hq hf
      refine g_aload_n X 0 dX7_readLine_28 rfl ?_
      refine g_ldcS X (i := 10) (tx := "evening") (by decide) dX7_readLine_29 ?_
      obtain ⟨v7, h6, hch6, hf⟩ := zc2_e hf
      refine g_callV X 1 (sX7_is hch6) zf7 hk1 ydX7_is w_ml_RX7_87 w_instanceMethod_X7_is w_sel_X7_is w_ini_RX7 w_code_X7_is (by decide) rfl (st := []) rfl rfl (Nat.le_of_ble_eq_true rfl) dX7_readLine_31 ?_
      refine g_if_eq X 42 dX7_readLine_34 (by decide) (fun hq => ?_) (fun hq => ?_)
      · have hf := zpos hq hf
        refine g_aload_n X 0 dX7_readLine_42 rfl ?_
        refine g_iconst X (v := 1) dX7_readLine_43 (by decide) ?_
        obtain ⟨v9, h8, hch8, hf⟩ := zc2_e hf
        refine g_callV X 1 (sX7_fail hch8) zf7 hk1 ydX7_fail w_ml_RX7_64 w_instanceMethod_X7_fail w_sel_X7_fail w_ini_RX7 w_code_X7_fail (by decide) rfl (st := []) rfl rfl (Nat.le_of_ble_eq_true rfl) dX7_readLine_44 ?_
        obtain ⟨hb10, hf⟩ := zite hf
        obtain ⟨rfl, rfl⟩ := zsm hf
        exact g_zret X hb10 hr dX7_readLine_47
      · have hf := zneg hq hf
        refine g_aload_n X 0 dX7_readLine_37 rfl ?_
        obtain ⟨v12, h11, hch11, hf⟩ := zc2_e hf
        refine g_callV X 0 (sX7_readEvening hch11) zf7 hk1 ydX7_readEvening w_ml_RX7_107 w_instanceMethod_X7_readEvening w_sel_X7_readEvening w_ini_RX7 w_code_X7_readEvening (by decide) rfl (st := []) rfl rfl (Nat.le_of_ble_eq_true rfl) dX7_readLine_38 ?_
        obtain ⟨hb13, hf⟩ := zite hf
        obtain ⟨rfl, rfl⟩ := zsm hf
        exact g_zret X hb13 hr dX7_readLine_41
    · have hf := zneg hq hf
      refine g_aload_n X 0 dX7_readLine_23 rfl ?_
      obtain ⟨v15, h14, hch14, hf⟩ := zc2_e hf
      refine g_callV X 0 (sX7_readRule hch14) zf7 hk1 ydX7_readRule w_ml_RX7_102 w_instanceMethod_X7_readRule w_sel_X7_readRule w_ini_RX7 w_code_X7_readRule (by decide) rfl (st := []) rfl rfl (Nat.le_of_ble_eq_true rfl) dX7_readLine_24 ?_
      obtain ⟨hb16, hf⟩ := zite hf
      obtain ⟨rfl, rfl⟩ := zsm hf
      exact g_zret X hb16 hr dX7_readLine_27
  · have hf := zneg hq hf
    refine g_aload_n X 0 dX7_readLine_9 rfl ?_
    obtain ⟨v18, h17, hch17, hf⟩ := zc2_e hf
    refine g_callV X 0 (sX7_readTrick hch17) zf7 hk1 ydX7_readTrick w_ml_RX7_97 w_instanceMethod_X7_readTrick w_sel_X7_readTrick w_ini_RX7 w_code_X7_readTrick (by decide) rfl (st := []) rfl rfl (Nat.le_of_ble_eq_true rfl) dX7_readLine_10 ?_
    obtain ⟨hb19, hf⟩ := zite hf
    obtain ⟨rfl, rfl⟩ := zsm hf
    exact g_zret X hb19 hr dX7_readLine_13

set_option maxHeartbeats 4000000 in
set_option maxRecDepth 100000 in
theorem sX7_readText {l : Launch} {D : va_G} {cA : Nat → ClassId} {base : Nat} {sA : Nat → Nat} {r0 : Nat} {r1 : Nat} {x2 : Int32} {r3 : Nat} {h hE : Zh} {rE : Int32} (hf : fX7_readText r0 r1 x2 r3 h = some (rE, hE)) : zC l yX7_readText cX7_readText 5 (some .boolean) 9 191 D cA base sA [.ref (base + r0), .ref (base + r1), .int x2, .ref (base + r3)] h (some (.int rE)) hE := by
  refine g_entry RX7 (by decide) rfl (Nat.le_of_ble_eq_true rfl) ?_
  intro p e s m args below meth c X hr
  unfold fX7_readText at hf
  have hf := zlet_n (x := h) rfl hf
  show zG p l e { frames := 9, cells := 0, slots := 0, locals := 191 } s m args below meth c (MQ below (zQ D cA base h hE (some (.int rE))) args s 0 0 (zA base)) 5 D cA base h 0 [(0, .ref (base + r0)), (1, .ref (base + r1)), (2, .int x2), (3, .ref (base + r3))] [] h
  refine g_aload_n X 0 dX7_readText_0 rfl ?_
  refine g_aload_n X 1 dX7_readText_1 rfl ?_
  obtain ⟨hk1, hf⟩ := zite hf
  refine g_putR X zf7 hk1 2 (by decide) w_f_RX7_9 rfl rfl rfl dX7_readText_2 ?_
  refine g_hp (fun h2 eh2 => ?_)
  have hf := zlet_n eh2 hf
  refine g_aload_n X 0 dX7_readText_5 rfl ?_
  refine g_iload_n X 2 dX7_readText_6 rfl ?_
  refine g_aload_n X 1 dX7_readText_7 rfl ?_
  obtain ⟨hk3, hf⟩ := zite hf
  refine g_alen1 X hk3 dX7_readText_8 ?_
  refine g_mmin X w_m1_RX7_32 w_m2_mmin w_m3 w_m4_mmin (Nat.le_of_ble_eq_true rfl) (Nat.le_of_ble_eq_true rfl) dX7_readText_9 ?_
  refine g_putI X zf7 hk1 3 (by decide) w_f_RX7_38 rfl rfl rfl dX7_readText_12 ?_
  refine g_hp (fun h4 eh4 => ?_)
  have hf := zlet_n eh4 hf
  refine g_aload_n X 0 dX7_readText_15 rfl ?_
  refine g_aload_n X 3 dX7_readText_16 rfl ?_
  refine g_putR X zf7 hk1 4 (by decide) w_f_RX7_18 rfl rfl rfl dX7_readText_17 ?_
  refine g_hp (fun h5 eh5 => ?_)
  have hf := zlet_n eh5 hf
  refine g_aload_n X 0 dX7_readText_20 rfl ?_
  obtain ⟨r_6, hr_6, hf⟩ := zbd hf
  refine g_get X zf7 hk1 4 (by decide) w_f_RX7_18 rfl (zfv_r hr_6 rfl) dX7_readText_21 ?_
  obtain ⟨hk7, hf⟩ := zite hf
  obtain ⟨h8, hch8, hf⟩ := zbd hf
  refine g_callV X 0 (sX9_clear hch8) zf9 hk7 ydX9_clear w_ml_RX7_42 w_instanceMethod_X9_clear w_sel_X9_clear w_ini_RX9 w_code_X9_clear (by decide) rfl (st := []) rfl rfl (Nat.le_of_ble_eq_true rfl) dX7_readText_24 ?_
  refine g_aload_n X 0 dX7_readText_27 rfl ?_
  refine g_iconst X (v := 0) dX7_readText_28 (by decide) ?_
  refine g_putI X zf7 hk1 0 (by decide) w_f_RX7_45 rfl rfl rfl dX7_readText_29 ?_
  refine g_hp (fun h9 eh9 => ?_)
  have hf := zlet_n eh9 hf
  refine g_aload_n X 0 dX7_readText_32 rfl ?_
  refine g_iconst X (v := 0) dX7_readText_33 (by decide) ?_
  refine g_putI X zf7 hk1 1 (by decide) w_f_RX7_48 rfl rfl rfl dX7_readText_34 ?_
  refine g_hp (fun h10 eh10 => ?_)
  have hf := zlet_n eh10 hf
  refine g_aload_n X 0 dX7_readText_37 rfl ?_
  refine g_iconst X (v := 0) dX7_readText_38 (by decide) ?_
  refine g_putI X zf7 hk1 10 (by decide) w_f_RX7_51 rfl rfl rfl dX7_readText_39 ?_
  refine g_hp (fun h11 eh11 => ?_)
  have hf := zlet_n eh11 hf
  refine g_aload_n X 0 dX7_readText_42 rfl ?_
  obtain ⟨h12, hch12, hf⟩ := zbd hf
  refine g_callV X 0 (sX7_step hch12) zf7 hk1 ydX7_step w_ml_RX7_54 w_instanceMethod_X7_step w_sel_X7_step w_ini_RX7 w_code_X7_step (by decide) rfl (st := []) rfl rfl (Nat.le_of_ble_eq_true rfl) dX7_readText_43 ?_
  refine g_iconst X (v := 0) dX7_readText_46 (by decide) ?_
  refine g_istore X [(4, .int ((0 : Int32))), (0, .ref (base + r0)), (1, .ref (base + r1)), (2, .int x2), (3, .ref (base + r3))] dX7_readText_47 (by decide) rfl ?_
  refine g_sub [1, 0] rfl ?_
  obtain ⟨qq, hlp, hf⟩ := zbd hf
  refine lp_snd (body := (fun q : Int32 × Zh => bX7_readText_49 h r0 q.1 q.2)) (P := (fun q : Int32 × Zh => zG p l e { frames := 9, cells := 0, slots := 0, locals := 191 } s m args below meth c (MQ below (zQ D cA base h hE (some (.int rE))) args s 0 0 (zA base)) 5 D cA base h 49 [(0, .ref (base + r0)), (4, .int q.1)] [] q.2)) (E := (fun (en : Nat) (q : Int32 × Zh) => if en = 1 then zG p l e { frames := 9, cells := 0, slots := 0, locals := 191 } s m args below meth c (MQ below (zQ D cA base h hE (some (.int rE))) args s 0 0 (zA base)) 5 D cA base h 65 [] [] q.2 else if en = 2 then zG p l e { frames := 9, cells := 0, slots := 0, locals := 191 } s m args below meth c (MQ below (zQ D cA base h hE (some (.int rE))) args s 0 0 (zA base)) 5 D cA base h 74 [] [] q.2 else if en = 3 then zG p l e { frames := 9, cells := 0, slots := 0, locals := 191 } s m args below meth c (MQ below (zQ D cA base h hE (some (.int rE))) args s 0 0 (zA base)) 5 D cA base h 84 [(0, .ref (base + r0))] [] q.2 else zG p l e { frames := 9, cells := 0, slots := 0, locals := 191 } s m args below meth c (MQ below (zQ D cA base h hE (some (.int rE))) args s 0 0 (zA base)) 5 D cA base h 100 [(0, .ref (base + r0))] [] q.2)) ?_ zB ((0 : Int32), h12) qq.1 qq.2 hlp ?_
  · intro q e_49 q_49 hf hc0 hc1
    obtain ⟨x4_49, h_49⟩ := q
    have hf : bX7_readText_49 h r0 x4_49 h_49 = some (e_49, q_49) := hf
    unfold bX7_readText_49 at hf
    show zG p l e { frames := 9, cells := 0, slots := 0, locals := 191 } s m args below meth c (MQ below (zQ D cA base h hE (some (.int rE))) args s 0 0 (zA base)) 5 D cA base h 49 [(0, .ref (base + r0)), (4, .int x4_49)] [] h_49
    refine g_iload X 1 dX7_readText_49 rfl ?_
    refine g_aload_n X 0 dX7_readText_51 rfl ?_
    refine g_get X zf7 hk1 3 (by decide) w_f_RX7_38 rfl rfl dX7_readText_52 ?_
    refine g_icmp_gt X 100 dX7_readText_55 (by decide) (fun hq => ?_) (fun hq => ?_)
    · have hf := zpos hq hf
      cases hf
      have hc1 := hc1 (by decide)
      exact g_sub [0] rfl (zun_n (by decide) (zun_n (by decide) (zun_n (by decide) hc1)))
    · have hf := zneg hq hf
      refine g_aload_n X 0 dX7_readText_58 rfl ?_
      obtain ⟨v14, h13, hch13, hf⟩ := zc2_e hf
      refine g_callV X 0 (sX7_readLine hch13) zf7 hk1 ydX7_readLine w_ml_RX7_57 w_instanceMethod_X7_readLine w_sel_X7_readLine w_ini_RX7 w_code_X7_readLine (by decide) rfl (st := []) rfl rfl (Nat.le_of_ble_eq_true rfl) dX7_readText_59 ?_
      refine g_if_ne X 67 dX7_readText_62 (by decide) (fun hq => ?_) (fun hq => ?_)
      · have hf := zneg hq hf
        refine g_aload_n X 0 dX7_readText_67 rfl ?_
        refine g_get X zf7 hk1 8 (by decide) w_f_RX7_61 rfl rfl dX7_readText_68 ?_
        refine g_if_ne X 76 dX7_readText_71 (by decide) (fun hq => ?_) (fun hq => ?_)
        · have hf := zneg hq hf
          refine g_aload_n X 0 dX7_readText_76 rfl ?_
          refine g_get X zf7 hk1 8 (by decide) w_f_RX7_61 rfl rfl dX7_readText_77 ?_
          refine g_iconst X (v := 3) dX7_readText_80 (by decide) ?_
          refine g_icmp_eq X 90 dX7_readText_81 (by decide) (fun hq => ?_) (fun hq => ?_)
          · have hf := zpos hq hf
            refine g_aload_n X 0 dX7_readText_90 rfl ?_
            obtain ⟨h15, hch15, hf⟩ := zbd hf
            refine g_callV X 0 (sX7_step hch15) zf7 hk1 ydX7_step w_ml_RX7_54 w_instanceMethod_X7_step w_sel_X7_step w_ini_RX7 w_code_X7_step (by decide) rfl (st := []) rfl rfl (Nat.le_of_ble_eq_true rfl) dX7_readText_91 ?_
            obtain ⟨y16, ey16⟩ : ∃ y : Int32, y = x4_49 + (1 : Int32) := ⟨_, rfl⟩
            have hf := zlet_n ey16 hf
            refine g_iinc X (j := 1) [(4, .int y16), (0, .ref (base + r0))] dX7_readText_94 rfl (by rw [ey16]; rfl) (by decide) rfl ?_
            refine g_goto X 49 dX7_readText_97 (by decide) ?_
            cases hf
            exact g_sub [1, 0] rfl (hc0 rfl)
          · have hf := zneg hq hf
            cases hf
            have hc1 := hc1 (by decide)
            exact g_sub [0] rfl (zun_p rfl (zun_n (by decide) (zun_n (by decide) hc1)))
        · have hf := zpos hq hf
          cases hf
          have hc1 := hc1 (by decide)
          exact g_sub [] rfl (zun_p rfl (zun_n (by decide) hc1))
      · have hf := zpos hq hf
        cases hf
        have hc1 := hc1 (by decide)
        exact g_sub [] rfl (zun_p rfl hc1)
  · obtain ⟨ee, x4_k49, h_k49⟩ := qq
    have hf : kX7_readText_49 h r0 ee x4_k49 h_k49 = some (rE, hE) := hf
    unfold kX7_readText_49 at hf
    by_cases hee0 : ee = 1
    · have hf := zpos hee0 hf
      refine zifp hee0 ?_
      show zG p l e { frames := 9, cells := 0, slots := 0, locals := 191 } s m args below meth c (MQ below (zQ D cA base h hE (some (.int rE))) args s 0 0 (zA base)) 5 D cA base h 65 [] [] h_k49
      refine g_iconst X (v := 0) dX7_readText_65 (by decide) ?_
      obtain ⟨rfl, rfl⟩ := zsm hf
      exact g_zret X (Or.inl rfl) hr dX7_readText_66
    have hf := zneg hee0 hf
    refine zifn hee0 ?_
    by_cases hee1 : ee = 2
    · have hf := zpos hee1 hf
      refine zifp hee1 ?_
      show zG p l e { frames := 9, cells := 0, slots := 0, locals := 191 } s m args below meth c (MQ below (zQ D cA base h hE (some (.int rE))) args s 0 0 (zA base)) 5 D cA base h 74 [] [] h_k49
      refine g_iconst X (v := 1) dX7_readText_74 (by decide) ?_
      obtain ⟨rfl, rfl⟩ := zsm hf
      exact g_zret X (Or.inr rfl) hr dX7_readText_75
    have hf := zneg hee1 hf
    refine zifn hee1 ?_
    by_cases hee2 : ee = 3
    · have hf := zpos hee2 hf
      refine zifp hee2 ?_
      show zG p l e { frames := 9, cells := 0, slots := 0, locals := 191 } s m args below meth c (MQ below (zQ D cA base h hE (some (.int rE))) args s 0 0 (zA base)) 5 D cA base h 84 [(0, .ref (base + r0))] [] h_k49
      refine g_aload_n X 0 dX7_readText_84 rfl ?_
      refine g_iconst X (v := 1) dX7_readText_85 (by decide) ?_
      obtain ⟨v18, h17, hch17, hf⟩ := zc2_e hf
      refine g_callV X 1 (sX7_fail hch17) zf7 hk1 ydX7_fail w_ml_RX7_64 w_instanceMethod_X7_fail w_sel_X7_fail w_ini_RX7 w_code_X7_fail (by decide) rfl (st := []) rfl rfl (Nat.le_of_ble_eq_true rfl) dX7_readText_86 ?_
      obtain ⟨hb19, hf⟩ := zite hf
      obtain ⟨rfl, rfl⟩ := zsm hf
      exact g_zret X hb19 hr dX7_readText_89
    have hf := zneg hee2 hf
    refine zifn hee2 ?_
    show zG p l e { frames := 9, cells := 0, slots := 0, locals := 191 } s m args below meth c (MQ below (zQ D cA base h hE (some (.int rE))) args s 0 0 (zA base)) 5 D cA base h 100 [(0, .ref (base + r0))] [] h_k49
    refine g_aload_n X 0 dX7_readText_100 rfl ?_
    refine g_iconst X (v := 1) dX7_readText_101 (by decide) ?_
    obtain ⟨v21, h20, hch20, hf⟩ := zc2_e hf
    refine g_callV X 1 (sX7_fail hch20) zf7 hk1 ydX7_fail w_ml_RX7_64 w_instanceMethod_X7_fail w_sel_X7_fail w_ini_RX7 w_code_X7_fail (by decide) rfl (st := []) rfl rfl (Nat.le_of_ble_eq_true rfl) dX7_readText_102 ?_
    obtain ⟨hb22, hf⟩ := zite hf
    obtain ⟨rfl, rfl⟩ := zsm hf
    exact g_zret X hb22 hr dX7_readText_105

set_option maxHeartbeats 4000000 in
set_option maxRecDepth 100000 in
theorem sX10_trick {l : Launch} {D : va_G} {cA : Nat → ClassId} {base : Nat} {sA : Nat → Nat} {r0 : Nat} {x1 : Int32} {h hE : Zh} {rE : Int32} (hf : fX10_trick r0 x1 h = some (rE, hE)) : zC l yX10_trick cX10_trick 4 (some .int) 10 215 D cA base sA [.ref (base + r0), .int x1] h (some (.int rE)) hE := by
  refine g_entry RX10 (by decide) rfl (Nat.le_of_ble_eq_true rfl) ?_
  intro p e s m args below meth c X hr
  unfold fX10_trick at hf
  have hf := zlet_n (x := h) rfl hf
  show zG p l e { frames := 10, cells := 0, slots := 0, locals := 215 } s m args below meth c (MQ below (zQ D cA base h hE (some (.int rE))) args s 0 0 (zA base)) 4 D cA base h 0 [(0, .ref (base + r0)), (1, .int x1)] [] h
  refine g_iload_n X 1 dX10_trick_0 rfl ?_
  refine g_if_lt X 12 dX10_trick_1 (by decide) (fun hq => ?_) (fun hq => ?_)
  · have hf := zpos hq hf
    refine g_aload_n X 0 dX10_trick_12 rfl ?_
    refine g_iconst X (v := 2) dX10_trick_13 (by decide) ?_
    obtain ⟨hk1, hf⟩ := zite hf
    obtain ⟨v3, h2, hch2, hf⟩ := zc2_e hf
    refine g_callV X 1 (sX10_refuse hch2) zf10 hk1 ydX10_refuse w_ml_RX10_56 w_instanceMethod_X10_refuse w_sel_X10_refuse w_ini_RX10 w_code_X10_refuse (by decide) rfl (st := []) rfl rfl (Nat.le_of_ble_eq_true rfl) dX10_trick_14 ?_
    obtain ⟨rfl, rfl⟩ := zsm hf
    exact g_iret X hr dX10_trick_17
  · have hf := zneg hq hf
    refine g_iload_n X 1 dX10_trick_4 rfl ?_
    refine g_aload_n X 0 dX10_trick_5 rfl ?_
    obtain ⟨hk4, hf⟩ := zite hf
    refine g_get X zf10 hk4 1 (by decide) w_f_RX10_48 rfl rfl dX10_trick_6 ?_
    refine g_icmp_le X 18 dX10_trick_9 (by decide) (fun hq => ?_) (fun hq => ?_)
    · have hf := zpos hq hf
      refine g_aload_n X 0 dX10_trick_18 rfl ?_
      refine g_iconst X (v := 0) dX10_trick_19 (by decide) ?_
      refine g_putI X zf10 hk4 1 (by decide) w_f_RX10_48 rfl rfl rfl dX10_trick_20 ?_
      refine g_hp (fun h5 eh5 => ?_)
      have hf := zlet_n eh5 hf
      refine g_aload_n X 0 dX10_trick_23 rfl ?_
      obtain ⟨r_6, hr_6, hf⟩ := zbd hf
      refine g_get X zf10 hk4 2 (by decide) w_f_RX10_16 rfl (zfv_r hr_6 rfl) dX10_trick_24 ?_
      refine g_aload_n X 0 dX10_trick_27 rfl ?_
      obtain ⟨r_7, hr_7, hf⟩ := zbd hf
      refine g_get X zf10 hk4 0 (by decide) w_f_RX10_9 rfl (zfv_r hr_7 rfl) dX10_trick_28 ?_
      refine g_iload_n X 1 dX10_trick_31 rfl ?_
      refine g_aload_n X 0 dX10_trick_32 rfl ?_
      obtain ⟨r_8, hr_8, hf⟩ := zbd hf
      refine g_get X zf10 hk4 4 (by decide) w_f_RX10_27 rfl (zfv_r hr_8 rfl) dX10_trick_33 ?_
      obtain ⟨hk9, hf⟩ := zite hf
      obtain ⟨v11, h10, hch10, hf⟩ := zc2_e hf
      refine g_callV X 3 (sX7_readText hch10) zf7 hk9 ydX7_readText w_ml_RX10_60 w_instanceMethod_X7_readText w_sel_X7_readText w_ini_RX7 w_code_X7_readText (by decide) rfl (st := []) rfl rfl (Nat.le_of_ble_eq_true rfl) dX10_trick_36 ?_
      refine g_istore_n X [(2, .int v11), (0, .ref (base + r0)), (1, .int x1)] dX10_trick_39 (by decide) rfl ?_
      refine g_aload_n X 1 dX10_trick_40 rfl ?_
      refine g_aload_n X 1 dX10_trick_41 rfl ?_
      obtain ⟨r_12, hr_12, hf⟩ := zbd hf
      refine g_get X zf10 hk4 2 (by decide) w_f_RX10_16 rfl (zfv_r hr_12 rfl) dX10_trick_42 ?_
      obtain ⟨hk13, hf⟩ := zite hf
      refine g_get X zf7 hk13 0 (by decide) w_f_RX10_64 rfl rfl dX10_trick_45 ?_
      refine g_putI X zf10 hk4 9 (by decide) w_f_RX10_67 rfl rfl rfl dX10_trick_48 ?_
      refine g_hp (fun h14 eh14 => ?_)
      have hf := zlet_n eh14 hf
      refine g_aload_n X 1 dX10_trick_51 rfl ?_
      refine g_aload_n X 1 dX10_trick_52 rfl ?_
      obtain ⟨r_15, hr_15, hf⟩ := zbd hf
      refine g_get X zf10 hk4 2 (by decide) w_f_RX10_16 rfl (zfv_r hr_15 rfl) dX10_trick_53 ?_
      obtain ⟨hk16, hf⟩ := zite hf
      refine g_get X zf7 hk16 1 (by decide) w_f_RX10_70 rfl rfl dX10_trick_56 ?_
      refine g_putI X zf10 hk4 10 (by decide) w_f_RX10_73 rfl rfl rfl dX10_trick_59 ?_
      refine g_hp (fun h17 eh17 => ?_)
      have hf := zlet_n eh17 hf
      refine g_iload_n X 0 dX10_trick_62 rfl ?_
      refine g_if_ne X 72 dX10_trick_63 (by decide) (fun hq => ?_) (fun hq => ?_)
      · have hf := zneg hq hf
        refine g_aload_n X 1 dX10_trick_72 rfl ?_
        obtain ⟨r_18, hr_18, hf⟩ := zbd hf
        refine g_get X zf10 hk4 3 (by decide) w_f_RX10_23 rfl (zfv_r hr_18 rfl) dX10_trick_73 ?_
        refine g_astore_n X [(3, .ref (base + r_18)), (2, .int v11), (0, .ref (base + r0)), (1, .int x1)] dX10_trick_76 (by decide) rfl ?_
        refine g_aload_n X 2 dX10_trick_77 rfl ?_
        refine g_aload_n X 2 dX10_trick_78 rfl ?_
        obtain ⟨r_19, hr_19, hf⟩ := zbd hf
        refine g_get X zf10 hk4 4 (by decide) w_f_RX10_27 rfl (zfv_r hr_19 rfl) dX10_trick_79 ?_
        refine g_putR X zf10 hk4 3 (by decide) w_f_RX10_23 rfl rfl rfl dX10_trick_82 ?_
        refine g_hp (fun h20 eh20 => ?_)
        have hf := zlet_n eh20 hf
        refine g_aload_n X 2 dX10_trick_85 rfl ?_
        refine g_aload_n X 0 dX10_trick_86 rfl ?_
        refine g_putR X zf10 hk4 4 (by decide) w_f_RX10_27 rfl rfl rfl dX10_trick_87 ?_
        refine g_hp (fun h21 eh21 => ?_)
        have hf := zlet_n eh21 hf
        refine g_aload_n X 2 dX10_trick_90 rfl ?_
        refine g_iconst X (v := 0) dX10_trick_91 (by decide) ?_
        refine g_putI X zf10 hk4 7 (by decide) w_f_RX10_74 rfl rfl rfl dX10_trick_92 ?_
        refine g_hp (fun h22 eh22 => ?_)
        have hf := zlet_n eh22 hf
        refine g_aload_n X 2 dX10_trick_95 rfl ?_
        obtain ⟨r_23, hr_23, hf⟩ := zbd hf
        refine g_get X zf10 hk4 5 (by decide) w_f_RX10_33 rfl (zfv_r hr_23 rfl) dX10_trick_96 ?_
        refine g_aload_n X 2 dX10_trick_99 rfl ?_
        obtain ⟨r_24, hr_24, hf⟩ := zbd hf
        refine g_get X zf10 hk4 3 (by decide) w_f_RX10_23 rfl (zfv_r hr_24 rfl) dX10_trick_100 ?_
        obtain ⟨hk25, hf⟩ := zite hf
        obtain ⟨h26, hch26, hf⟩ := zbd hf
        refine g_callV X 1 (sX4_begin hch26) zf4 hk25 ydX4_begin w_ml_RX10_77 w_instanceMethod_X4_begin w_sel_X4_begin w_ini_RX4 w_code_X4_begin (by decide) rfl (st := []) rfl rfl (Nat.le_of_ble_eq_true rfl) dX10_trick_103 ?_
        refine g_aload_n X 2 dX10_trick_106 rfl ?_
        refine g_aload_n X 2 dX10_trick_107 rfl ?_
        obtain ⟨r_27, hr_27, hf⟩ := zbd hf
        refine g_get X zf10 hk4 3 (by decide) w_f_RX10_23 rfl (zfv_r hr_27 rfl) dX10_trick_108 ?_
        obtain ⟨hk28, hf⟩ := zite hf
        refine g_get X zf9 hk28 3 (by decide) w_f_RX10_81 rfl rfl dX10_trick_111 ?_
        obtain ⟨v30, h29, hch29, hf⟩ := zc2_e hf
        refine g_callV X 1 (sX10_answer hch29) zf10 hk4 ydX10_answer w_ml_RX10_84 w_instanceMethod_X10_answer w_sel_X10_answer w_ini_RX10 w_code_X10_answer (by decide) rfl (st := []) rfl rfl (Nat.le_of_ble_eq_true rfl) dX10_trick_114 ?_
        obtain ⟨rfl, rfl⟩ := zsm hf
        exact g_iret X hr dX10_trick_117
      · have hf := zpos hq hf
        refine g_aload_n X 1 dX10_trick_66 rfl ?_
        refine g_iconst X (v := 4) dX10_trick_67 (by decide) ?_
        obtain ⟨v32, h31, hch31, hf⟩ := zc2_e hf
        refine g_callV X 1 (sX10_refuse hch31) zf10 hk4 ydX10_refuse w_ml_RX10_56 w_instanceMethod_X10_refuse w_sel_X10_refuse w_ini_RX10 w_code_X10_refuse (by decide) rfl (st := []) rfl rfl (Nat.le_of_ble_eq_true rfl) dX10_trick_68 ?_
        obtain ⟨rfl, rfl⟩ := zsm hf
        exact g_iret X hr dX10_trick_71
    · have hf := zneg hq hf
      refine g_aload_n X 0 dX10_trick_12 rfl ?_
      refine g_iconst X (v := 2) dX10_trick_13 (by decide) ?_
      obtain ⟨v34, h33, hch33, hf⟩ := zc2_e hf
      refine g_callV X 1 (sX10_refuse hch33) zf10 hk4 ydX10_refuse w_ml_RX10_56 w_instanceMethod_X10_refuse w_sel_X10_refuse w_ini_RX10 w_code_X10_refuse (by decide) rfl (st := []) rfl rfl (Nat.le_of_ble_eq_true rfl) dX10_trick_14 ?_
      obtain ⟨rfl, rfl⟩ := zsm hf
      exact g_iret X hr dX10_trick_17

set_option maxHeartbeats 4000000 in
set_option maxRecDepth 100000 in
theorem sX10_image {l : Launch} {D : va_G} {cA : Nat → ClassId} {base : Nat} {sA : Nat → Nat} {r0 : Nat} {h hE : Zh} {rE : Int32} (hf : fX10_image r0 h = some (rE, hE)) : zC l yX10_image cX10_image 1 (some .int) 2 69 D cA base sA [.ref (base + r0)] h (some (.int rE)) hE := by
  refine g_entry RX10 (by decide) rfl (Nat.le_of_ble_eq_true rfl) ?_
  intro p e s m args below meth c X hr
  unfold fX10_image at hf
  have hf := zlet_n (x := h) rfl hf
  show zG p l e { frames := 2, cells := 0, slots := 0, locals := 69 } s m args below meth c (MQ below (zQ D cA base h hE (some (.int rE))) args s 0 0 (zA base)) 1 D cA base h 0 [(0, .ref (base + r0))] [] h
  refine g_aload_n X 0 dX10_image_0 rfl ?_
  obtain ⟨hk1, hf⟩ := zite hf
  obtain ⟨r_2, hr_2, hf⟩ := zbd hf
  refine g_get X zf10 hk1 3 (by decide) w_f_RX10_23 rfl (zfv_r hr_2 rfl) dX10_image_1 ?_
  obtain ⟨hk3, hf⟩ := zite hf
  refine g_get X zf9 hk3 0 (by decide) w_f_RX10_90 rfl rfl dX10_image_4 ?_
  refine g_if_ne X 16 dX10_image_7 (by decide) (fun hq => ?_) (fun hq => ?_)
  · have hf := zneg hq hf
    refine g_aload_n X 0 dX10_image_16 rfl ?_
    refine g_get X zf10 hk1 7 (by decide) w_f_RX10_74 rfl rfl dX10_image_17 ?_
    refine g_iconst X (v := 3) dX10_image_20 (by decide) ?_
    refine g_icmp_lt X 30 dX10_image_21 (by decide) (fun hq => ?_) (fun hq => ?_)
    · have hf := zpos hq hf
      refine g_aload_n X 0 dX10_image_30 rfl ?_
      obtain ⟨r_4, hr_4, hf⟩ := zbd hf
      refine g_get X zf10 hk1 6 (by decide) w_f_RX10_40 rfl (zfv_r hr_4 rfl) dX10_image_31 ?_
      refine g_aload_n X 0 dX10_image_34 rfl ?_
      refine g_get X zf10 hk1 7 (by decide) w_f_RX10_74 rfl rfl dX10_image_35 ?_
      obtain ⟨hk5, hf⟩ := zite hf
      obtain ⟨hi6, hf⟩ := zite hf
      obtain ⟨r_7, hr_7, hf⟩ := zbd hf
      refine g_aald5 X hk5 hi6 hr_7 dX10_image_38 ?_
      refine g_aload_n X 0 dX10_image_39 rfl ?_
      obtain ⟨r_8, hr_8, hf⟩ := zbd hf
      refine g_get X zf10 hk1 3 (by decide) w_f_RX10_23 rfl (zfv_r hr_8 rfl) dX10_image_40 ?_
      obtain ⟨hk9, hf⟩ := zite hf
      obtain ⟨r_10, hr_10, hf⟩ := zbd hf
      refine g_get X zf9 hk9 4 (by decide) w_f_RX10_233 rfl (zfv_r hr_10 rfl) dX10_image_43 ?_
      obtain ⟨hk11, hf⟩ := zite hf
      obtain ⟨h12, hch12, hf⟩ := zbd hf
      refine g_callV X 1 (sX1_become hch12) zf1 hk11 ydX1_become w_ml_RX10_274 w_instanceMethod_X1_become w_sel_X1_become w_ini_RX1 w_code_X1_become (by decide) rfl (st := []) rfl rfl (Nat.le_of_ble_eq_true rfl) dX10_image_46 ?_
      refine g_aload_n X 0 dX10_image_49 rfl ?_
      refine g_dup X dX10_image_50 rfl ?_
      refine g_get X zf10 hk1 7 (by decide) w_f_RX10_74 rfl rfl dX10_image_51 ?_
      refine g_iconst X (v := 1) dX10_image_54 (by decide) ?_
      refine g_iadd X dX10_image_55 ?_
      refine g_putI X zf10 hk1 7 (by decide) w_f_RX10_74 rfl rfl rfl dX10_image_56 ?_
      refine g_hp (fun h13 eh13 => ?_)
      have hf := zlet_n eh13 hf
      refine g_aload_n X 0 dX10_image_59 rfl ?_
      refine g_aload_n X 0 dX10_image_60 rfl ?_
      refine g_get X zf10 hk1 7 (by decide) w_f_RX10_74 rfl rfl dX10_image_61 ?_
      refine g_iconst X (v := 1) dX10_image_64 (by decide) ?_
      refine g_isub X dX10_image_65 ?_
      obtain ⟨v15, h14, hch14, hf⟩ := zc2_e hf
      refine g_callV X 1 (sX10_answer hch14) zf10 hk1 ydX10_answer w_ml_RX10_84 w_instanceMethod_X10_answer w_sel_X10_answer w_ini_RX10 w_code_X10_answer (by decide) rfl (st := []) rfl rfl (Nat.le_of_ble_eq_true rfl) dX10_image_66 ?_
      obtain ⟨rfl, rfl⟩ := zsm hf
      exact g_iret X hr dX10_image_69
    · have hf := zneg hq hf
      refine g_aload_n X 0 dX10_image_24 rfl ?_
      refine g_iconst X (v := 3) dX10_image_25 (by decide) ?_
      obtain ⟨v17, h16, hch16, hf⟩ := zc2_e hf
      refine g_callV X 1 (sX10_refuse hch16) zf10 hk1 ydX10_refuse w_ml_RX10_56 w_instanceMethod_X10_refuse w_sel_X10_refuse w_ini_RX10 w_code_X10_refuse (by decide) rfl (st := []) rfl rfl (Nat.le_of_ble_eq_true rfl) dX10_image_26 ?_
      obtain ⟨rfl, rfl⟩ := zsm hf
      exact g_iret X hr dX10_image_29
  · have hf := zpos hq hf
    refine g_aload_n X 0 dX10_image_10 rfl ?_
    refine g_iconst X (v := 1) dX10_image_11 (by decide) ?_
    obtain ⟨v19, h18, hch18, hf⟩ := zc2_e hf
    refine g_callV X 1 (sX10_refuse hch18) zf10 hk1 ydX10_refuse w_ml_RX10_56 w_instanceMethod_X10_refuse w_sel_X10_refuse w_ini_RX10 w_code_X10_refuse (by decide) rfl (st := []) rfl rfl (Nat.le_of_ble_eq_true rfl) dX10_image_12 ?_
    obtain ⟨rfl, rfl⟩ := zsm hf
    exact g_iret X hr dX10_image_15

set_option maxHeartbeats 4000000 in
set_option maxRecDepth 100000 in
theorem sX10_back {l : Launch} {D : va_G} {cA : Nat → ClassId} {base : Nat} {sA : Nat → Nat} {r0 : Nat} {x1 : Int32} {h hE : Zh} {rE : Int32} (hf : fX10_back r0 x1 h = some (rE, hE)) : zC l yX10_back cX10_back 2 (some .boolean) 2 69 D cA base sA [.ref (base + r0), .int x1] h (some (.int rE)) hE := by
  refine g_entry RX10 (by decide) rfl (Nat.le_of_ble_eq_true rfl) ?_
  intro p e s m args below meth c X hr
  unfold fX10_back at hf
  have hf := zlet_n (x := h) rfl hf
  show zG p l e { frames := 2, cells := 0, slots := 0, locals := 69 } s m args below meth c (MQ below (zQ D cA base h hE (some (.int rE))) args s 0 0 (zA base)) 2 D cA base h 0 [(0, .ref (base + r0)), (1, .int x1)] [] h
  refine g_iload_n X 1 dX10_back_0 rfl ?_
  refine g_if_lt X 12 dX10_back_1 (by decide) (fun hq => ?_) (fun hq => ?_)
  · have hf := zpos hq hf
    refine g_aload_n X 0 dX10_back_12 rfl ?_
    refine g_iconst X (v := 1) dX10_back_13 (by decide) ?_
    obtain ⟨hk1, hf⟩ := zite hf
    obtain ⟨v3, h2, hch2, hf⟩ := zc2_e hf
    refine g_callV X 1 (sX10_deny hch2) zf10 hk1 ydX10_deny w_ml_RX10_262 w_instanceMethod_X10_deny w_sel_X10_deny w_ini_RX10 w_code_X10_deny (by decide) rfl (st := []) rfl rfl (Nat.le_of_ble_eq_true rfl) dX10_back_14 ?_
    obtain ⟨hb4, hf⟩ := zite hf
    obtain ⟨rfl, rfl⟩ := zsm hf
    exact g_zret X hb4 hr dX10_back_17
  · have hf := zneg hq hf
    refine g_iload_n X 1 dX10_back_4 rfl ?_
    refine g_aload_n X 0 dX10_back_5 rfl ?_
    obtain ⟨hk5, hf⟩ := zite hf
    refine g_get X zf10 hk5 7 (by decide) w_f_RX10_74 rfl rfl dX10_back_6 ?_
    refine g_icmp_lt X 18 dX10_back_9 (by decide) (fun hq => ?_) (fun hq => ?_)
    · have hf := zpos hq hf
      refine g_aload_n X 0 dX10_back_18 rfl ?_
      obtain ⟨r_6, hr_6, hf⟩ := zbd hf
      refine g_get X zf10 hk5 3 (by decide) w_f_RX10_23 rfl (zfv_r hr_6 rfl) dX10_back_19 ?_
      obtain ⟨hk7, hf⟩ := zite hf
      obtain ⟨r_8, hr_8, hf⟩ := zbd hf
      refine g_get X zf9 hk7 4 (by decide) w_f_RX10_233 rfl (zfv_r hr_8 rfl) dX10_back_22 ?_
      refine g_aload_n X 0 dX10_back_25 rfl ?_
      obtain ⟨r_9, hr_9, hf⟩ := zbd hf
      refine g_get X zf10 hk5 6 (by decide) w_f_RX10_40 rfl (zfv_r hr_9 rfl) dX10_back_26 ?_
      refine g_iload_n X 1 dX10_back_29 rfl ?_
      obtain ⟨hk10, hf⟩ := zite hf
      obtain ⟨hi11, hf⟩ := zite hf
      obtain ⟨r_12, hr_12, hf⟩ := zbd hf
      refine g_aald5 X hk10 hi11 hr_12 dX10_back_30 ?_
      obtain ⟨hk13, hf⟩ := zite hf
      obtain ⟨h14, hch14, hf⟩ := zbd hf
      refine g_callV X 1 (sX1_become hch14) zf1 hk13 ydX1_become w_ml_RX10_274 w_instanceMethod_X1_become w_sel_X1_become w_ini_RX1 w_code_X1_become (by decide) rfl (st := []) rfl rfl (Nat.le_of_ble_eq_true rfl) dX10_back_31 ?_
      refine g_aload_n X 0 dX10_back_34 rfl ?_
      obtain ⟨v16, h15, hch15, hf⟩ := zc2_e hf
      refine g_callV X 0 (sX10_grant hch15) zf10 hk5 ydX10_grant w_ml_RX10_269 w_instanceMethod_X10_grant w_sel_X10_grant w_ini_RX10 w_code_X10_grant (by decide) rfl (st := []) rfl rfl (Nat.le_of_ble_eq_true rfl) dX10_back_35 ?_
      obtain ⟨hb17, hf⟩ := zite hf
      obtain ⟨rfl, rfl⟩ := zsm hf
      exact g_zret X hb17 hr dX10_back_38
    · have hf := zneg hq hf
      refine g_aload_n X 0 dX10_back_12 rfl ?_
      refine g_iconst X (v := 1) dX10_back_13 (by decide) ?_
      obtain ⟨v19, h18, hch18, hf⟩ := zc2_e hf
      refine g_callV X 1 (sX10_deny hch18) zf10 hk5 ydX10_deny w_ml_RX10_262 w_instanceMethod_X10_deny w_sel_X10_deny w_ini_RX10 w_code_X10_deny (by decide) rfl (st := []) rfl rfl (Nat.le_of_ble_eq_true rfl) dX10_back_14 ?_
      obtain ⟨hb20, hf⟩ := zite hf
      obtain ⟨rfl, rfl⟩ := zsm hf
      exact g_zret X hb20 hr dX10_back_17

