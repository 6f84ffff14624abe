/-! FifthCard kept -/
def fX10_kept (r0 : Nat) (x1 : Int32) (x2 : Int32) (x3 : Int32) (h : Zh) : Option (Int32 × Zh) := zlet h fun g =>
  if zK h r0 = 10 then zc2 (fX10_noRule r0 x1 h) fun v3 h2 => if v3 = 0 then if zK h2 r0 = 10 then zc2 (fX10_noHand r0 x2 h2) fun v9 h8 => if v9 = 0 then if x3 < 0 then if zK h8 r0 = 10 then zc2 (fX10_refuse r0 ((1 : Int32)) h8) fun v15 h14 => some (v15, h14) else none else if zK h8 r0 = 10 then (zR h8 r0 3).bind fun r_17 => if zK h8 r_17 = 9 then (zR h8 r_17 1).bind fun r_19 => if zK h8 r_19 = 0 then if x3 < (zI h8 r_19 4) then (zR h8 r0 5).bind fun r_21 => if zK h8 r_21 = 4 then zc2 (fX4_laidBy r_21 x1 h8) fun v24 h23 => if zK h23 v24 = 2 then (zR h23 v24 1).bind fun r_26 => if zK h23 r_26 = 100 then if zin x2 (zL h23 r_26) then zlet (zI h23 r_26 x2.toNatClampNeg) fun y29 => if 0 ≤ y29 then if zK h23 r0 = 10 then (zR h23 r0 3).bind fun r_31 => if zK h23 r_31 = 9 then (zR h23 r_31 1).bind fun r_33 => (zR h23 r0 11).bind fun r_34 => if zK h23 r_33 = 0 then (fX0_unpackRow r_33 y29 r_34 h23).bind fun h36 => if zK h36 r0 = 10 then (zR h36 r0 3).bind fun r_38 => if zK h36 r_38 = 9 then (zR h36 r_38 1).bind fun r_40 => (zR h36 r0 11).bind fun r_41 => (zR h36 r0 5).bind fun r_42 => if zK h36 r_42 = 4 then (zR h36 r_42 0).bind fun r_44 => if zK h36 r_44 = 100 then if zin x2 (zL h36 r_44) then if zK h36 r_40 = 0 then zc2 (fX0_keptCard r_40 r_41 (zI h36 r_44 x2.toNatClampNeg) x3 h36) fun v49 h48 => if zK h48 r0 = 10 then zc2 (fX10_answer r0 v49 h48) fun v52 h51 => some (v52, h51) else none else none else none else none else none else none else none else none else none else none else if zK h23 r0 = 10 then zc2 (fX10_refuse r0 ((6 : Int32)) h23) fun v55 h54 => some (v55, h54) else none else none else none else none else none else zc2 (fX10_refuse r0 ((1 : Int32)) h8) fun v57 h56 => some (v57, h56) else none else none else none else if zK h8 r0 = 10 then zc2 (fX10_refuse r0 ((1 : Int32)) h8) fun v12 h11 => some (v12, h11) else none else none else if zK h2 r0 = 10 then zc2 (fX10_refuse r0 ((1 : Int32)) h2) fun v6 h5 => some (v6, h5) else none else none
/-! FifthCard says -/
def fX10_says (r0 : Nat) (x1 : Int32) (x2 : Int32) (h : Zh) : Option (Int32 × Zh) := zlet h fun g =>
  if zK h r0 = 10 then zc2 (fX10_noRule r0 x1 h) fun v3 h2 => if v3 = 0 then if zK h2 r0 = 10 then zc2 (fX10_noRow r0 x2 h2) fun v9 h8 => if v9 = 0 then if zK h8 r0 = 10 then (zR h8 r0 5).bind fun r_11 => (zR h8 r0 5).bind fun r_12 => if zK h8 r_12 = 4 then zc2 (fX4_laidBy r_12 x1 h8) fun v15 h14 => if zK h14 r_11 = 4 then zc2 (fX4_firstLaid r_11 v15 x2 h14) fun v18 h17 => if zK h17 r0 = 10 then zc2 (fX10_answer r0 v18 h17) fun v21 h20 => some (v21, h20) else none else none else none else none else if zK h8 r0 = 10 then zc2 (fX10_refuse r0 ((1 : Int32)) h8) fun v24 h23 => some (v24, h23) else none else none else if zK h2 r0 = 10 then zc2 (fX10_refuse r0 ((1 : Int32)) h2) fun v6 h5 => some (v6, h5) else none else none
/-! FifthCard works -/
def fX10_works (r0 : Nat) (x1 : Int32) (h : Zh) : Option (Int32 × Zh) := zlet h fun g =>
  if zK h r0 = 10 then zc2 (fX10_noRule r0 x1 h) fun v3 h2 => if v3 = 0 then if zK h2 r0 = 10 then (zR h2 r0 5).bind fun r_5 => if zK h2 r_5 = 4 then zc2 (fX4_laidBy r_5 x1 h2) fun v8 h7 => if zK h7 v8 = 2 then if (zI h7 v8 3) = 0 then if 0 ≤ (zI h7 v8 5) then if zK h7 r0 = 10 then zc2 (fX10_answerWhether r0 ((0 : Int32)) h7) fun v15 h14 => some (v15, h14) else none else if zK h7 r0 = 10 then zc2 (fX10_answerWhether r0 ((1 : Int32)) h7) fun v18 h17 => some (v18, h17) else none else if zK h7 r0 = 10 then zc2 (fX10_answerWhether r0 ((0 : Int32)) h7) fun v12 h11 => some (v12, h11) else none else none else none else none else if zK h2 r0 = 10 then zc2 (fX10_refuse r0 ((1 : Int32)) h2) fun v21 h20 => some (v21, h20) else none else none
/-! FifthCard clash -/
def fX10_clash (r0 : Nat) (x1 : Int32) (x2 : Int32) (h : Zh) : Option (Int32 × Zh) := zlet h fun g =>
  if zK h r0 = 10 then zc2 (fX10_noRule r0 x1 h) fun v3 h2 => if v3 = 0 then if zK h2 r0 = 10 then (zR h2 r0 5).bind fun r_5 => if zK h2 r_5 = 4 then zc2 (fX4_laidBy r_5 x1 h2) fun v8 h7 => if x2 = 0 then if zK h7 v8 = 2 then if zK h7 r0 = 10 then zc2 (fX10_answer r0 (zI h7 v8 5) h7) fun v12 h11 => some (v12, h11) else none else none else if zK h7 v8 = 2 then if zK h7 r0 = 10 then zc2 (fX10_answer r0 (zI h7 v8 6) h7) fun v16 h15 => some (v16, h15) else none else none else none else none else if zK h2 r0 = 10 then zc2 (fX10_refuse r0 ((1 : Int32)) h2) fun v19 h18 => some (v19, h18) else none else none
/-! FifthCard laid -/
def fX10_laid (r0 : Nat) (x1 : Int32) (h : Zh) : Option (Int32 × Zh) := zlet h fun g =>
  if zK h r0 = 10 then zc2 (fX10_noRule r0 x1 h) fun v3 h2 => if v3 = 0 then if zK h2 r0 = 10 then (zR h2 r0 5).bind fun r_5 => if zK h2 r_5 = 4 then zc2 (fX4_laidBy r_5 x1 h2) fun v8 h7 => if zK h7 v8 = 2 then if zK h7 r0 = 10 then zc2 (fX10_answer r0 (zI h7 v8 4) h7) fun v12 h11 => some (v12, h11) else none else none else none else none else if zK h2 r0 = 10 then zc2 (fX10_refuse r0 ((1 : Int32)) h2) fun v15 h14 => some (v15, h14) else none else none
/-! FifthCard fails -/
def fX10_fails (r0 : Nat) (x1 : Int32) (h : Zh) : Option (Int32 × Zh) := zlet h fun g =>
  if zK h r0 = 10 then zc2 (fX10_noRule r0 x1 h) fun v3 h2 => if v3 = 0 then if zK h2 r0 = 10 then (zR h2 r0 5).bind fun r_5 => if zK h2 r_5 = 4 then zc2 (fX4_laidBy r_5 x1 h2) fun v8 h7 => if zK h7 v8 = 2 then if zK h7 r0 = 10 then zc2 (fX10_answer r0 (zI h7 v8 3) h7) fun v12 h11 => some (v12, h11) else none else none else none else none else if zK h2 r0 = 10 then zc2 (fX10_refuse r0 ((1 : Int32)) h2) fun v15 h14 => some (v15, h14) else none else none
/-! FifthCard seen -/
def fX10_seen (r0 : Nat) (x1 : Int32) (h : Zh) : Option (Int32 × Zh) := zlet h fun g =>
  if zK h r0 = 10 then zc2 (fX10_noRule r0 x1 h) fun v3 h2 => if v3 = 0 then if zK h2 r0 = 10 then (zR h2 r0 5).bind fun r_5 => (zR h2 r0 5).bind fun r_6 => if zK h2 r_6 = 4 then zc2 (fX4_laidBy r_6 x1 h2) fun v9 h8 => if zK h8 r_5 = 4 then zc2 (fX4_swapsJudged r_5 v9 h8) fun v12 h11 => if zK h11 v12 = 2 then if zK h11 r0 = 10 then zc2 (fX10_answerWhether r0 (zI h11 v12 8) h11) fun v16 h15 => some (v16, h15) else none else none else none else none else none else if zK h2 r0 = 10 then zc2 (fX10_refuse r0 ((1 : Int32)) h2) fun v19 h18 => some (v19, h18) else none else none
/-! FifthCard borne -/
def fX10_borne (r0 : Nat) (x1 : Int32) (h : Zh) : Option (Int32 × Zh) := zlet h fun g =>
  if zK h r0 = 10 then zc2 (fX10_noRule r0 x1 h) fun v3 h2 => if v3 = 0 then if zK h2 r0 = 10 then (zR h2 r0 5).bind fun r_5 => (zR h2 r0 5).bind fun r_6 => if zK h2 r_6 = 4 then zc2 (fX4_laidBy r_6 x1 h2) fun v9 h8 => if zK h8 r_5 = 4 then zc2 (fX4_swapsJudged r_5 v9 h8) fun v12 h11 => if zK h11 v12 = 2 then if zK h11 r0 = 10 then zc2 (fX10_answerWhether r0 (zI h11 v12 9) h11) fun v16 h15 => some (v16, h15) else none else none else none else none else none else if zK h2 r0 = 10 then zc2 (fX10_refuse r0 ((1 : Int32)) h2) fun v19 h18 => some (v19, h18) else none else none
/-! FifthCard table -/
def fX10_table (r0 : Nat) (x1 : Int32) (h : Zh) : Option (Int32 × Zh) := zlet h fun g =>
  if zK h r0 = 10 then zc2 (fX10_noHand r0 x1 h) fun v3 h2 => if v3 = 0 then if zK h2 r0 = 10 then (zR h2 r0 3).bind fun r_5 => if zK h2 r_5 = 9 then (zR h2 r_5 1).bind fun r_7 => if zK h2 r_7 = 0 then if (zI h2 r_7 9) ≤ ((300 : Int32)) then (zR h2 r0 5).bind fun r_9 => if zK h2 r_9 = 4 then (fX4_readyTable r_9 h2).bind fun h11 => if zK h11 r0 = 10 then (zR h11 r0 5).bind fun r_13 => if zK h11 r_13 = 4 then zc2 (fX4_tableRow r_13 x1 h11) fun v16 h15 => if zK h15 r0 = 10 then zc2 (fX10_answer r0 v16 h15) fun v19 h18 => some (v19, h18) else none else none else none else none else zc2 (fX10_refuse r0 ((3 : Int32)) h2) fun v21 h20 => some (v21, h20) else none else none else none else if zK h2 r0 = 10 then zc2 (fX10_refuse r0 ((1 : Int32)) h2) fun v24 h23 => some (v24, h23) else none else none
/-! FifthCard agrees -/
def bX10_agrees_31 (g : Zh) (r0 : Nat) (r2 : Nat) (x3 : Int32) (x4 : Int32) (h : Zh) : Option (Nat × Int32 × Int32 × Zh) :=
  if zK h r0 = 10 then (zR h r0 3).bind fun r_12 => if zK h r_12 = 9 then (zR h r_12 4).bind fun r_14 => if zK h r_14 = 1 then if (zI h r_14 2) ≤ x4 then some (1, (x3, (x4, h))) else zc2 (fX10_isAgreed r0 r2 x4 h) fun v17 h16 => if v17 = 0 then zlet (x4 + (1 : Int32)) fun y18 => some (0, (x3, (y18, h16))) else zlet (x3 + (1 : Int32)) fun y19 => zlet (x4 + (1 : Int32)) fun y20 => some (0, (y19, (y20, h16))) else none else none else none
def kX10_agrees_31 (g : Zh) (r0 : Nat) (e : Nat) (x3 : Int32) (x4 : Int32) (h : Zh) : Option (Int32 × Zh) :=
  if zK h r0 = 10 then zc2 (fX10_answer r0 x3 h) fun v23 h22 => some (v23, h22) else none
def fX10_agrees (r0 : Nat) (x1 : Int32) (h : Zh) : Option (Int32 × Zh) := zlet h fun g =>
  if zK h r0 = 10 then zc2 (fX10_noRule r0 x1 h) fun v3 h2 => if v3 = 0 then if zK h2 r0 = 10 then (zR h2 r0 5).bind fun r_5 => if zK h2 r_5 = 4 then zc2 (fX4_laidBy r_5 x1 h2) fun v8 h7 => if zK h7 v8 = 2 then (zR h7 v8 1).bind fun r_10 => (lp (fun q : Int32 × Int32 × Zh => bX10_agrees_31 g r0 r_10 q.1 q.2.1 q.2.2) zB ((0 : Int32), ((0 : Int32), h7))).bind fun q => kX10_agrees_31 g r0 q.1 q.2.1 q.2.2.1 q.2.2.2 else none else none else none else if zK h2 r0 = 10 then zc2 (fX10_refuse r0 ((1 : Int32)) h2) fun v26 h25 => some (v26, h25) else none else none
/-! FifthCard wrong -/
def fX10_wrong (r0 : Nat) (x1 : Int32) (h : Zh) : Option (Int32 × Zh) := zlet h fun g =>
  if zK h r0 = 10 then zc2 (fX10_noRule r0 x1 h) fun v3 h2 => if v3 = 0 then if zK h2 r0 = 10 then (zR h2 r0 5).bind fun r_5 => if zK h2 r_5 = 4 then zc2 (fX4_laidBy r_5 x1 h2) fun v8 h7 => if zK h7 v8 = 2 then (zR h7 v8 1).bind fun r_10 => if zK h7 r0 = 10 then zc2 (fX10_firstWrong r0 r_10 h7) fun v13 h12 => if zK h12 r0 = 10 then zc2 (fX10_answer r0 v13 h12) fun v16 h15 => some (v16, h15) else none else none else none else none else none else if zK h2 r0 = 10 then zc2 (fX10_refuse r0 ((1 : Int32)) h2) fun v19 h18 => some (v19, h18) else none else none
theorem dX10_kept_0 : decode cX10_kept 0 = .ok (.aload_n 0, 1) := by decide +kernel
theorem dX10_kept_1 : decode cX10_kept 1 = .ok (.iload_n 1, 1) := by decide +kernel
theorem dX10_kept_2 : decode cX10_kept 2 = .ok (.invokevirtual 157, 3) := by decide +kernel
theorem dX10_kept_5 : decode cX10_kept 5 = .ok (.ifCond .ne 29, 3) := by decide +kernel
theorem dX10_kept_8 : decode cX10_kept 8 = .ok (.aload_n 0, 1) := by decide +kernel
theorem dX10_kept_9 : decode cX10_kept 9 = .ok (.iload_n 2, 1) := by decide +kernel
theorem dX10_kept_10 : decode cX10_kept 10 = .ok (.invokevirtual 106, 3) := by decide +kernel
theorem dX10_kept_13 : decode cX10_kept 13 = .ok (.ifCond .ne 21, 3) := by decide +kernel
theorem dX10_kept_16 : decode cX10_kept 16 = .ok (.iload_n 3, 1) := by decide +kernel
theorem dX10_kept_17 : decode cX10_kept 17 = .ok (.ifCond .lt 17, 3) := by decide +kernel
theorem dX10_kept_20 : decode cX10_kept 20 = .ok (.iload_n 3, 1) := by decide +kernel
theorem dX10_kept_21 : decode cX10_kept 21 = .ok (.aload_n 0, 1) := by decide +kernel
theorem dX10_kept_22 : decode cX10_kept 22 = .ok (.getfield 23, 3) := by decide +kernel
theorem dX10_kept_25 : decode cX10_kept 25 = .ok (.getfield 94, 3) := by decide +kernel
theorem dX10_kept_28 : decode cX10_kept 28 = .ok (.getfield 169, 3) := by decide +kernel
theorem dX10_kept_31 : decode cX10_kept 31 = .ok (.if_icmp .lt 9, 3) := by decide +kernel
theorem dX10_kept_34 : decode cX10_kept 34 = .ok (.aload_n 0, 1) := by decide +kernel
theorem dX10_kept_35 : decode cX10_kept 35 = .ok (.iconst 1, 1) := by decide +kernel
theorem dX10_kept_36 : decode cX10_kept 36 = .ok (.invokevirtual 56, 3) := by decide +kernel
theorem dX10_kept_39 : decode cX10_kept 39 = .ok (.ireturn, 1) := by decide +kernel
theorem dX10_kept_40 : decode cX10_kept 40 = .ok (.aload_n 0, 1) := by decide +kernel
theorem dX10_kept_41 : decode cX10_kept 41 = .ok (.getfield 33, 3) := by decide +kernel
theorem dX10_kept_44 : decode cX10_kept 44 = .ok (.iload_n 1, 1) := by decide +kernel
theorem dX10_kept_45 : decode cX10_kept 45 = .ok (.invokevirtual 160, 3) := by decide +kernel
theorem dX10_kept_48 : decode cX10_kept 48 = .ok (.getfield 164, 3) := by decide +kernel
theorem dX10_kept_51 : decode cX10_kept 51 = .ok (.iload_n 2, 1) := by decide +kernel
theorem dX10_kept_52 : decode cX10_kept 52 = .ok (.iaload, 1) := by decide +kernel
theorem dX10_kept_53 : decode cX10_kept 53 = .ok (.istore 4, 2) := by decide +kernel
theorem dX10_kept_55 : decode cX10_kept 55 = .ok (.iload 4, 2) := by decide +kernel
theorem dX10_kept_57 : decode cX10_kept 57 = .ok (.ifCond .ge 10, 3) := by decide +kernel
theorem dX10_kept_60 : decode cX10_kept 60 = .ok (.aload_n 0, 1) := by decide +kernel
theorem dX10_kept_61 : decode cX10_kept 61 = .ok (.bipush 6, 2) := by decide +kernel
theorem dX10_kept_63 : decode cX10_kept 63 = .ok (.invokevirtual 56, 3) := by decide +kernel
theorem dX10_kept_66 : decode cX10_kept 66 = .ok (.ireturn, 1) := by decide +kernel
theorem dX10_kept_67 : decode cX10_kept 67 = .ok (.aload_n 0, 1) := by decide +kernel
theorem dX10_kept_68 : decode cX10_kept 68 = .ok (.getfield 23, 3) := by decide +kernel
theorem dX10_kept_71 : decode cX10_kept 71 = .ok (.getfield 94, 3) := by decide +kernel
theorem dX10_kept_74 : decode cX10_kept 74 = .ok (.iload 4, 2) := by decide +kernel
theorem dX10_kept_76 : decode cX10_kept 76 = .ok (.aload_n 0, 1) := by decide +kernel
theorem dX10_kept_77 : decode cX10_kept 77 = .ok (.getfield 44, 3) := by decide +kernel
theorem dX10_kept_80 : decode cX10_kept 80 = .ok (.invokevirtual 134, 3) := by decide +kernel
theorem dX10_kept_83 : decode cX10_kept 83 = .ok (.aload_n 0, 1) := by decide +kernel
theorem dX10_kept_84 : decode cX10_kept 84 = .ok (.aload_n 0, 1) := by decide +kernel
theorem dX10_kept_85 : decode cX10_kept 85 = .ok (.getfield 23, 3) := by decide +kernel
theorem dX10_kept_88 : decode cX10_kept 88 = .ok (.getfield 94, 3) := by decide +kernel
theorem dX10_kept_91 : decode cX10_kept 91 = .ok (.aload_n 0, 1) := by decide +kernel
theorem dX10_kept_92 : decode cX10_kept 92 = .ok (.getfield 44, 3) := by decide +kernel
theorem dX10_kept_95 : decode cX10_kept 95 = .ok (.aload_n 0, 1) := by decide +kernel
theorem dX10_kept_96 : decode cX10_kept 96 = .ok (.getfield 33, 3) := by decide +kernel
theorem dX10_kept_99 : decode cX10_kept 99 = .ok (.getfield 113, 3) := by decide +kernel
theorem dX10_kept_102 : decode cX10_kept 102 = .ok (.iload_n 2, 1) := by decide +kernel
theorem dX10_kept_103 : decode cX10_kept 103 = .ok (.iaload, 1) := by decide +kernel
theorem dX10_kept_104 : decode cX10_kept 104 = .ok (.iload_n 3, 1) := by decide +kernel
theorem dX10_kept_105 : decode cX10_kept 105 = .ok (.invokevirtual 172, 3) := by decide +kernel
theorem dX10_kept_108 : decode cX10_kept 108 = .ok (.invokevirtual 84, 3) := by decide +kernel
theorem dX10_kept_111 : decode cX10_kept 111 = .ok (.ireturn, 1) := by decide +kernel
theorem dX10_says_0 : decode cX10_says 0 = .ok (.aload_n 0, 1) := by decide +kernel
theorem dX10_says_1 : decode cX10_says 1 = .ok (.iload_n 1, 1) := by decide +kernel
theorem dX10_says_2 : decode cX10_says 2 = .ok (.invokevirtual 157, 3) := by decide +kernel
theorem dX10_says_5 : decode cX10_says 5 = .ok (.ifCond .ne 11, 3) := by decide +kernel
theorem dX10_says_8 : decode cX10_says 8 = .ok (.aload_n 0, 1) := by decide +kernel
theorem dX10_says_9 : decode cX10_says 9 = .ok (.iload_n 2, 1) := by decide +kernel
theorem dX10_says_10 : decode cX10_says 10 = .ok (.invokevirtual 128, 3) := by decide +kernel
theorem dX10_says_13 : decode cX10_says 13 = .ok (.ifCond .eq 9, 3) := by decide +kernel
theorem dX10_says_16 : decode cX10_says 16 = .ok (.aload_n 0, 1) := by decide +kernel
theorem dX10_says_17 : decode cX10_says 17 = .ok (.iconst 1, 1) := by decide +kernel
theorem dX10_says_18 : decode cX10_says 18 = .ok (.invokevirtual 56, 3) := by decide +kernel
theorem dX10_says_21 : decode cX10_says 21 = .ok (.ireturn, 1) := by decide +kernel
theorem dX10_says_22 : decode cX10_says 22 = .ok (.aload_n 0, 1) := by decide +kernel
theorem dX10_says_23 : decode cX10_says 23 = .ok (.aload_n 0, 1) := by decide +kernel
theorem dX10_says_24 : decode cX10_says 24 = .ok (.getfield 33, 3) := by decide +kernel
theorem dX10_says_27 : decode cX10_says 27 = .ok (.aload_n 0, 1) := by decide +kernel
theorem dX10_says_28 : decode cX10_says 28 = .ok (.getfield 33, 3) := by decide +kernel
theorem dX10_says_31 : decode cX10_says 31 = .ok (.iload_n 1, 1) := by decide +kernel
theorem dX10_says_32 : decode cX10_says 32 = .ok (.invokevirtual 160, 3) := by decide +kernel
theorem dX10_says_35 : decode cX10_says 35 = .ok (.iload_n 2, 1) := by decide +kernel
theorem dX10_says_36 : decode cX10_says 36 = .ok (.invokevirtual 176, 3) := by decide +kernel
theorem dX10_says_39 : decode cX10_says 39 = .ok (.invokevirtual 84, 3) := by decide +kernel
theorem dX10_says_42 : decode cX10_says 42 = .ok (.ireturn, 1) := by decide +kernel
theorem dX10_works_0 : decode cX10_works 0 = .ok (.aload_n 0, 1) := by decide +kernel
theorem dX10_works_1 : decode cX10_works 1 = .ok (.iload_n 1, 1) := by decide +kernel
theorem dX10_works_2 : decode cX10_works 2 = .ok (.invokevirtual 157, 3) := by decide +kernel
theorem dX10_works_5 : decode cX10_works 5 = .ok (.ifCond .eq 9, 3) := by decide +kernel
theorem dX10_works_8 : decode cX10_works 8 = .ok (.aload_n 0, 1) := by decide +kernel
theorem dX10_works_9 : decode cX10_works 9 = .ok (.iconst 1, 1) := by decide +kernel
theorem dX10_works_10 : decode cX10_works 10 = .ok (.invokevirtual 56, 3) := by decide +kernel
theorem dX10_works_13 : decode cX10_works 13 = .ok (.ireturn, 1) := by decide +kernel
theorem dX10_works_14 : decode cX10_works 14 = .ok (.aload_n 0, 1) := by decide +kernel
theorem dX10_works_15 : decode cX10_works 15 = .ok (.getfield 33, 3) := by decide +kernel
theorem dX10_works_18 : decode cX10_works 18 = .ok (.iload_n 1, 1) := by decide +kernel
theorem dX10_works_19 : decode cX10_works 19 = .ok (.invokevirtual 160, 3) := by decide +kernel
theorem dX10_works_22 : decode cX10_works 22 = .ok (.astore_n 2, 1) := by decide +kernel
theorem dX10_works_23 : decode cX10_works 23 = .ok (.aload_n 0, 1) := by decide +kernel
theorem dX10_works_24 : decode cX10_works 24 = .ok (.aload_n 2, 1) := by decide +kernel
theorem dX10_works_25 : decode cX10_works 25 = .ok (.getfield 180, 3) := by decide +kernel
theorem dX10_works_28 : decode cX10_works 28 = .ok (.ifCond .ne 14, 3) := by decide +kernel
theorem dX10_works_31 : decode cX10_works 31 = .ok (.aload_n 2, 1) := by decide +kernel
theorem dX10_works_32 : decode cX10_works 32 = .ok (.getfield 183, 3) := by decide +kernel
theorem dX10_works_35 : decode cX10_works 35 = .ok (.ifCond .ge 7, 3) := by decide +kernel
theorem dX10_works_38 : decode cX10_works 38 = .ok (.iconst 1, 1) := by decide +kernel
theorem dX10_works_39 : decode cX10_works 39 = .ok (.goto 4, 3) := by decide +kernel
theorem dX10_works_42 : decode cX10_works 42 = .ok (.iconst 0, 1) := by decide +kernel
theorem dX10_works_43 : decode cX10_works 43 = .ok (.invokevirtual 145, 3) := by decide +kernel
theorem dX10_works_46 : decode cX10_works 46 = .ok (.ireturn, 1) := by decide +kernel
theorem dX10_clash_0 : decode cX10_clash 0 = .ok (.aload_n 0, 1) := by decide +kernel
theorem dX10_clash_1 : decode cX10_clash 1 = .ok (.iload_n 1, 1) := by decide +kernel
theorem dX10_clash_2 : decode cX10_clash 2 = .ok (.invokevirtual 157, 3) := by decide +kernel
theorem dX10_clash_5 : decode cX10_clash 5 = .ok (.ifCond .eq 9, 3) := by decide +kernel
theorem dX10_clash_8 : decode cX10_clash 8 = .ok (.aload_n 0, 1) := by decide +kernel
theorem dX10_clash_9 : decode cX10_clash 9 = .ok (.iconst 1, 1) := by decide +kernel
theorem dX10_clash_10 : decode cX10_clash 10 = .ok (.invokevirtual 56, 3) := by decide +kernel
theorem dX10_clash_13 : decode cX10_clash 13 = .ok (.ireturn, 1) := by decide +kernel
theorem dX10_clash_14 : decode cX10_clash 14 = .ok (.aload_n 0, 1) := by decide +kernel
theorem dX10_clash_15 : decode cX10_clash 15 = .ok (.getfield 33, 3) := by decide +kernel
theorem dX10_clash_18 : decode cX10_clash 18 = .ok (.iload_n 1, 1) := by decide +kernel
theorem dX10_clash_19 : decode cX10_clash 19 = .ok (.invokevirtual 160, 3) := by decide +kernel
theorem dX10_clash_22 : decode cX10_clash 22 = .ok (.astore_n 3, 1) := by decide +kernel
theorem dX10_clash_23 : decode cX10_clash 23 = .ok (.aload_n 0, 1) := by decide +kernel
theorem dX10_clash_24 : decode cX10_clash 24 = .ok (.iload_n 2, 1) := by decide +kernel
theorem dX10_clash_25 : decode cX10_clash 25 = .ok (.ifCond .eq 10, 3) := by decide +kernel
theorem dX10_clash_28 : decode cX10_clash 28 = .ok (.aload_n 3, 1) := by decide +kernel
theorem dX10_clash_29 : decode cX10_clash 29 = .ok (.getfield 186, 3) := by decide +kernel
theorem dX10_clash_32 : decode cX10_clash 32 = .ok (.goto 7, 3) := by decide +kernel
theorem dX10_clash_35 : decode cX10_clash 35 = .ok (.aload_n 3, 1) := by decide +kernel
theorem dX10_clash_36 : decode cX10_clash 36 = .ok (.getfield 183, 3) := by decide +kernel
theorem dX10_clash_39 : decode cX10_clash 39 = .ok (.invokevirtual 84, 3) := by decide +kernel
theorem dX10_clash_42 : decode cX10_clash 42 = .ok (.ireturn, 1) := by decide +kernel
theorem dX10_laid_0 : decode cX10_laid 0 = .ok (.aload_n 0, 1) := by decide +kernel
theorem dX10_laid_1 : decode cX10_laid 1 = .ok (.iload_n 1, 1) := by decide +kernel
theorem dX10_laid_2 : decode cX10_laid 2 = .ok (.invokevirtual 157, 3) := by decide +kernel
theorem dX10_laid_5 : decode cX10_laid 5 = .ok (.ifCond .eq 9, 3) := by decide +kernel
theorem dX10_laid_8 : decode cX10_laid 8 = .ok (.aload_n 0, 1) := by decide +kernel
theorem dX10_laid_9 : decode cX10_laid 9 = .ok (.iconst 1, 1) := by decide +kernel
theorem dX10_laid_10 : decode cX10_laid 10 = .ok (.invokevirtual 56, 3) := by decide +kernel
theorem dX10_laid_13 : decode cX10_laid 13 = .ok (.ireturn, 1) := by decide +kernel
theorem dX10_laid_14 : decode cX10_laid 14 = .ok (.aload_n 0, 1) := by decide +kernel
theorem dX10_laid_15 : decode cX10_laid 15 = .ok (.aload_n 0, 1) := by decide +kernel
theorem dX10_laid_16 : decode cX10_laid 16 = .ok (.getfield 33, 3) := by decide +kernel
theorem dX10_laid_19 : decode cX10_laid 19 = .ok (.iload_n 1, 1) := by decide +kernel
theorem dX10_laid_20 : decode cX10_laid 20 = .ok (.invokevirtual 160, 3) := by decide +kernel
theorem dX10_laid_23 : decode cX10_laid 23 = .ok (.getfield 189, 3) := by decide +kernel
theorem dX10_laid_26 : decode cX10_laid 26 = .ok (.invokevirtual 84, 3) := by decide +kernel
theorem dX10_laid_29 : decode cX10_laid 29 = .ok (.ireturn, 1) := by decide +kernel
theorem dX10_fails_0 : decode cX10_fails 0 = .ok (.aload_n 0, 1) := by decide +kernel
theorem dX10_fails_1 : decode cX10_fails 1 = .ok (.iload_n 1, 1) := by decide +kernel
theorem dX10_fails_2 : decode cX10_fails 2 = .ok (.invokevirtual 157, 3) := by decide +kernel
theorem dX10_fails_5 : decode cX10_fails 5 = .ok (.ifCond .eq 9, 3) := by decide +kernel
theorem dX10_fails_8 : decode cX10_fails 8 = .ok (.aload_n 0, 1) := by decide +kernel
theorem dX10_fails_9 : decode cX10_fails 9 = .ok (.iconst 1, 1) := by decide +kernel
theorem dX10_fails_10 : decode cX10_fails 10 = .ok (.invokevirtual 56, 3) := by decide +kernel
theorem dX10_fails_13 : decode cX10_fails 13 = .ok (.ireturn, 1) := by decide +kernel
theorem dX10_fails_14 : decode cX10_fails 14 = .ok (.aload_n 0, 1) := by decide +kernel
theorem dX10_fails_15 : decode cX10_fails 15 = .ok (.aload_n 0, 1) := by decide +kernel
theorem dX10_fails_16 : decode cX10_fails 16 = .ok (.getfield 33, 3) := by decide +kernel
theorem dX10_fails_19 : decode cX10_fails 19 = .ok (.iload_n 1, 1) := by decide +kernel
theorem dX10_fails_20 : decode cX10_fails 20 = .ok (.invokevirtual 160, 3) := by decide +kernel
theorem dX10_fails_23 : decode cX10_fails 23 = .ok (.getfield 180, 3) := by decide +kernel
theorem dX10_fails_26 : decode cX10_fails 26 = .ok (.invokevirtual 84, 3) := by decide +kernel
theorem dX10_fails_29 : decode cX10_fails 29 = .ok (.ireturn, 1) := by decide +kernel
theorem dX10_seen_0 : decode cX10_seen 0 = .ok (.aload_n 0, 1) := by decide +kernel
theorem dX10_seen_1 : decode cX10_seen 1 = .ok (.iload_n 1, 1) := by decide +kernel
theorem dX10_seen_2 : decode cX10_seen 2 = .ok (.invokevirtual 157, 3) := by decide +kernel
theorem dX10_seen_5 : decode cX10_seen 5 = .ok (.ifCond .eq 9, 3) := by decide +kernel
theorem dX10_seen_8 : decode cX10_seen 8 = .ok (.aload_n 0, 1) := by decide +kernel
theorem dX10_seen_9 : decode cX10_seen 9 = .ok (.iconst 1, 1) := by decide +kernel
theorem dX10_seen_10 : decode cX10_seen 10 = .ok (.invokevirtual 56, 3) := by decide +kernel
theorem dX10_seen_13 : decode cX10_seen 13 = .ok (.ireturn, 1) := by decide +kernel
theorem dX10_seen_14 : decode cX10_seen 14 = .ok (.aload_n 0, 1) := by decide +kernel
theorem dX10_seen_15 : decode cX10_seen 15 = .ok (.aload_n 0, 1) := by decide +kernel
theorem dX10_seen_16 : decode cX10_seen 16 = .ok (.getfield 33, 3) := by decide +kernel
theorem dX10_seen_19 : decode cX10_seen 19 = .ok (.aload_n 0, 1) := by decide +kernel
theorem dX10_seen_20 : decode cX10_seen 20 = .ok (.getfield 33, 3) := by decide +kernel
theorem dX10_seen_23 : decode cX10_seen 23 = .ok (.iload_n 1, 1) := by decide +kernel
theorem dX10_seen_24 : decode cX10_seen 24 = .ok (.invokevirtual 160, 3) := by decide +kernel
theorem dX10_seen_27 : decode cX10_seen 27 = .ok (.invokevirtual 192, 3) := by decide +kernel
theorem dX10_seen_30 : decode cX10_seen 30 = .ok (.getfield 196, 3) := by decide +kernel
theorem dX10_seen_33 : decode cX10_seen 33 = .ok (.invokevirtual 145, 3) := by decide +kernel
theorem dX10_seen_36 : decode cX10_seen 36 = .ok (.ireturn, 1) := by decide +kernel
theorem dX10_borne_0 : decode cX10_borne 0 = .ok (.aload_n 0, 1) := by decide +kernel
theorem dX10_borne_1 : decode cX10_borne 1 = .ok (.iload_n 1, 1) := by decide +kernel
theorem dX10_borne_2 : decode cX10_borne 2 = .ok (.invokevirtual 157, 3) := by decide +kernel
theorem dX10_borne_5 : decode cX10_borne 5 = .ok (.ifCond .eq 9, 3) := by decide +kernel
theorem dX10_borne_8 : decode cX10_borne 8 = .ok (.aload_n 0, 1) := by decide +kernel
theorem dX10_borne_9 : decode cX10_borne 9 = .ok (.iconst 1, 1) := by decide +kernel
theorem dX10_borne_10 : decode cX10_borne 10 = .ok (.invokevirtual 56, 3) := by decide +kernel
theorem dX10_borne_13 : decode cX10_borne 13 = .ok (.ireturn, 1) := by decide +kernel
theorem dX10_borne_14 : decode cX10_borne 14 = .ok (.aload_n 0, 1) := by decide +kernel
theorem dX10_borne_15 : decode cX10_borne 15 = .ok (.aload_n 0, 1) := by decide +kernel
theorem dX10_borne_16 : decode cX10_borne 16 = .ok (.getfield 33, 3) := by decide +kernel
theorem dX10_borne_19 : decode cX10_borne 19 = .ok (.aload_n 0, 1) := by decide +kernel
theorem dX10_borne_20 : decode cX10_borne 20 = .ok (.getfield 33, 3) := by decide +kernel
theorem dX10_borne_23 : decode cX10_borne 23 = .ok (.iload_n 1, 1) := by decide +kernel
theorem dX10_borne_24 : decode cX10_borne 24 = .ok (.invokevirtual 160, 3) := by decide +kernel
theorem dX10_borne_27 : decode cX10_borne 27 = .ok (.invokevirtual 192, 3) := by decide +kernel
theorem dX10_borne_30 : decode cX10_borne 30 = .ok (.getfield 199, 3) := by decide +kernel
theorem dX10_borne_33 : decode cX10_borne 33 = .ok (.invokevirtual 145, 3) := by decide +kernel
theorem dX10_borne_36 : decode cX10_borne 36 = .ok (.ireturn, 1) := by decide +kernel
theorem dX10_table_0 : decode cX10_table 0 = .ok (.aload_n 0, 1) := by decide +kernel
theorem dX10_table_1 : decode cX10_table 1 = .ok (.iload_n 1, 1) := by decide +kernel
theorem dX10_table_2 : decode cX10_table 2 = .ok (.invokevirtual 106, 3) := by decide +kernel
theorem dX10_table_5 : decode cX10_table 5 = .ok (.ifCond .eq 9, 3) := by decide +kernel
theorem dX10_table_8 : decode cX10_table 8 = .ok (.aload_n 0, 1) := by decide +kernel
theorem dX10_table_9 : decode cX10_table 9 = .ok (.iconst 1, 1) := by decide +kernel
theorem dX10_table_10 : decode cX10_table 10 = .ok (.invokevirtual 56, 3) := by decide +kernel
theorem dX10_table_13 : decode cX10_table 13 = .ok (.ireturn, 1) := by decide +kernel
theorem dX10_table_14 : decode cX10_table 14 = .ok (.aload_n 0, 1) := by decide +kernel
theorem dX10_table_15 : decode cX10_table 15 = .ok (.getfield 23, 3) := by decide +kernel
theorem dX10_table_18 : decode cX10_table 18 = .ok (.getfield 94, 3) := by decide +kernel
theorem dX10_table_21 : decode cX10_table 21 = .ok (.getfield 98, 3) := by decide +kernel
theorem dX10_table_24 : decode cX10_table 24 = .ok (.sipush 300, 3) := by decide +kernel
theorem dX10_table_27 : decode cX10_table 27 = .ok (.if_icmp .le 9, 3) := by decide +kernel
theorem dX10_table_30 : decode cX10_table 30 = .ok (.aload_n 0, 1) := by decide +kernel
theorem dX10_table_31 : decode cX10_table 31 = .ok (.iconst 3, 1) := by decide +kernel
theorem dX10_table_32 : decode cX10_table 32 = .ok (.invokevirtual 56, 3) := by decide +kernel
theorem dX10_table_35 : decode cX10_table 35 = .ok (.ireturn, 1) := by decide +kernel
theorem dX10_table_36 : decode cX10_table 36 = .ok (.aload_n 0, 1) := by decide +kernel
theorem dX10_table_37 : decode cX10_table 37 = .ok (.getfield 33, 3) := by decide +kernel
theorem dX10_table_40 : decode cX10_table 40 = .ok (.invokevirtual 221, 3) := by decide +kernel
theorem dX10_table_43 : decode cX10_table 43 = .ok (.aload_n 0, 1) := by decide +kernel
theorem dX10_table_44 : decode cX10_table 44 = .ok (.aload_n 0, 1) := by decide +kernel
theorem dX10_table_45 : decode cX10_table 45 = .ok (.getfield 33, 3) := by decide +kernel
theorem dX10_table_48 : decode cX10_table 48 = .ok (.iload_n 1, 1) := by decide +kernel
theorem dX10_table_49 : decode cX10_table 49 = .ok (.invokevirtual 224, 3) := by decide +kernel
theorem dX10_table_52 : decode cX10_table 52 = .ok (.invokevirtual 84, 3) := by decide +kernel
theorem dX10_table_55 : decode cX10_table 55 = .ok (.ireturn, 1) := by decide +kernel
theorem dX10_agrees_0 : decode cX10_agrees 0 = .ok (.aload_n 0, 1) := by decide +kernel
theorem dX10_agrees_1 : decode cX10_agrees 1 = .ok (.iload_n 1, 1) := by decide +kernel
theorem dX10_agrees_2 : decode cX10_agrees 2 = .ok (.invokevirtual 157, 3) := by decide +kernel
theorem dX10_agrees_5 : decode cX10_agrees 5 = .ok (.ifCond .eq 9, 3) := by decide +kernel
theorem dX10_agrees_8 : decode cX10_agrees 8 = .ok (.aload_n 0, 1) := by decide +kernel
theorem dX10_agrees_9 : decode cX10_agrees 9 = .ok (.iconst 1, 1) := by decide +kernel
theorem dX10_agrees_10 : decode cX10_agrees 10 = .ok (.invokevirtual 56, 3) := by decide +kernel
theorem dX10_agrees_13 : decode cX10_agrees 13 = .ok (.ireturn, 1) := by decide +kernel
theorem dX10_agrees_14 : decode cX10_agrees 14 = .ok (.aload_n 0, 1) := by decide +kernel
theorem dX10_agrees_15 : decode cX10_agrees 15 = .ok (.getfield 33, 3) := by decide +kernel
theorem dX10_agrees_18 : decode cX10_agrees 18 = .ok (.iload_n 1, 1) := by decide +kernel
theorem dX10_agrees_19 : decode cX10_agrees 19 = .ok (.invokevirtual 160, 3) := by decide +kernel
theorem dX10_agrees_22 : decode cX10_agrees 22 = .ok (.getfield 164, 3) := by decide +kernel
theorem dX10_agrees_25 : decode cX10_agrees 25 = .ok (.astore_n 2, 1) := by decide +kernel
theorem dX10_agrees_26 : decode cX10_agrees 26 = .ok (.iconst 0, 1) := by decide +kernel
theorem dX10_agrees_27 : decode cX10_agrees 27 = .ok (.istore_n 3, 1) := by decide +kernel
theorem dX10_agrees_28 : decode cX10_agrees 28 = .ok (.iconst 0, 1) := by decide +kernel
theorem dX10_agrees_29 : decode cX10_agrees 29 = .ok (.istore 4, 2) := by decide +kernel
theorem dX10_agrees_31 : decode cX10_agrees 31 = .ok (.iload 4, 2) := by decide +kernel
theorem dX10_agrees_33 : decode cX10_agrees 33 = .ok (.aload_n 0, 1) := by decide +kernel
theorem dX10_agrees_34 : decode cX10_agrees 34 = .ok (.getfield 23, 3) := by decide +kernel
theorem dX10_agrees_37 : decode cX10_agrees 37 = .ok (.getfield 233, 3) := by decide +kernel
theorem dX10_agrees_40 : decode cX10_agrees 40 = .ok (.getfield 239, 3) := by decide +kernel
theorem dX10_agrees_43 : decode cX10_agrees 43 = .ok (.if_icmp .ge 22, 3) := by decide +kernel
theorem dX10_agrees_46 : decode cX10_agrees 46 = .ok (.aload_n 0, 1) := by decide +kernel
theorem dX10_agrees_47 : decode cX10_agrees 47 = .ok (.aload_n 2, 1) := by decide +kernel
theorem dX10_agrees_48 : decode cX10_agrees 48 = .ok (.iload 4, 2) := by decide +kernel
theorem dX10_agrees_50 : decode cX10_agrees 50 = .ok (.invokevirtual 242, 3) := by decide +kernel
theorem dX10_agrees_53 : decode cX10_agrees 53 = .ok (.ifCond .eq 6, 3) := by decide +kernel
theorem dX10_agrees_56 : decode cX10_agrees 56 = .ok (.iinc 3 1, 3) := by decide +kernel
theorem dX10_agrees_59 : decode cX10_agrees 59 = .ok (.iinc 4 1, 3) := by decide +kernel
theorem dX10_agrees_62 : decode cX10_agrees 62 = .ok (.goto (-31), 3) := by decide +kernel
theorem dX10_agrees_65 : decode cX10_agrees 65 = .ok (.aload_n 0, 1) := by decide +kernel
theorem dX10_agrees_66 : decode cX10_agrees 66 = .ok (.iload_n 3, 1) := by decide +kernel
theorem dX10_agrees_67 : decode cX10_agrees 67 = .ok (.invokevirtual 84, 3) := by decide +kernel
theorem dX10_agrees_70 : decode cX10_agrees 70 = .ok (.ireturn, 1) := by decide +kernel
theorem dX10_wrong_0 : decode cX10_wrong 0 = .ok (.aload_n 0, 1) := by decide +kernel
theorem dX10_wrong_1 : decode cX10_wrong 1 = .ok (.iload_n 1, 1) := by decide +kernel
theorem dX10_wrong_2 : decode cX10_wrong 2 = .ok (.invokevirtual 157, 3) := by decide +kernel
theorem dX10_wrong_5 : decode cX10_wrong 5 = .ok (.ifCond .eq 9, 3) := by decide +kernel
theorem dX10_wrong_8 : decode cX10_wrong 8 = .ok (.aload_n 0, 1) := by decide +kernel
theorem dX10_wrong_9 : decode cX10_wrong 9 = .ok (.iconst 1, 1) := by decide +kernel
theorem dX10_wrong_10 : decode cX10_wrong 10 = .ok (.invokevirtual 56, 3) := by decide +kernel
theorem dX10_wrong_13 : decode cX10_wrong 13 = .ok (.ireturn, 1) := by decide +kernel
theorem dX10_wrong_14 : decode cX10_wrong 14 = .ok (.aload_n 0, 1) := by decide +kernel
theorem dX10_wrong_15 : decode cX10_wrong 15 = .ok (.aload_n 0, 1) := by decide +kernel
theorem dX10_wrong_16 : decode cX10_wrong 16 = .ok (.aload_n 0, 1) := by decide +kernel
theorem dX10_wrong_17 : decode cX10_wrong 17 = .ok (.getfield 33, 3) := by decide +kernel
theorem dX10_wrong_20 : decode cX10_wrong 20 = .ok (.iload_n 1, 1) := by decide +kernel
theorem dX10_wrong_21 : decode cX10_wrong 21 = .ok (.invokevirtual 160, 3) := by decide +kernel
theorem dX10_wrong_24 : decode cX10_wrong 24 = .ok (.getfield 164, 3) := by decide +kernel
theorem dX10_wrong_27 : decode cX10_wrong 27 = .ok (.invokevirtual 245, 3) := by decide +kernel
theorem dX10_wrong_30 : decode cX10_wrong 30 = .ok (.invokevirtual 84, 3) := by decide +kernel
theorem dX10_wrong_33 : decode cX10_wrong 33 = .ok (.ireturn, 1) := by decide +kernel
set_option maxHeartbeats 4000000 in
set_option maxRecDepth 100000 in
theorem sX10_kept {l : Launch} {D : va_G} {cA : Nat → ClassId} {base : Nat} {sA : Nat → Nat} {r0 : Nat} {x1 : Int32} {x2 : Int32} {x3 : Int32} {h hE : Zh} {rE : Int32} (hf : fX10_kept r0 x1 x2 x3 h = some (rE, hE)) : zCA l yX10_kept cX10_kept 5 (some .int) 7 170 D cA base sA [.ref (base + r0), .int x1, .int x2, .int x3] h (some (.int rE)) hE := by
  refine a_entry RX10 (by decide) rfl (Nat.le_of_ble_eq_true rfl) ?_
  intro p e R s m args below meth c hRf hRl r hin X hr
  unfold fX10_kept at hf
  have hf := zlet_n (x := h) rfl hf
  show zGA p l e R s m args below meth c (MQ below (zQA D cA base h hE (some (.int rE))) args s (zNC - zN h) (zNS - zS h) (zA base)) 5 D cA base h 0 [(0, .ref (base + r0)), (1, .int x1), (2, .int x2), (3, .int x3)] [] h
  refine a_aload_n X 0 dX10_kept_0 rfl ?_
  refine a_iload_n X 1 dX10_kept_1 rfl ?_
  obtain ⟨hk1, hf⟩ := zite hf
  obtain ⟨v3, h2, hch2, hf⟩ := zc2_e hf
  refine a_callV X r 1 (sX10_noRule hch2) zf10 hk1 ydX10_noRule w_ml_RX10_157 w_instanceMethod_X10_noRule w_sel_X10_noRule w_ini_RX10 w_code_X10_noRule (by rw [hRf, hRl]; decide) rfl (st := []) rfl rfl (Nat.le_of_ble_eq_true rfl) dX10_kept_2 ?_
  refine a_if_ne X 34 dX10_kept_5 (by decide) (fun hq => ?_) (fun hq => ?_)
  · have hf := zneg hq hf
    refine a_aload_n X 0 dX10_kept_34 rfl ?_
    refine a_iconst X (v := 1) dX10_kept_35 (by decide) ?_
    obtain ⟨hk4, hf⟩ := zite hf
    obtain ⟨v6, h5, hch5, hf⟩ := zc2_e hf
    refine a_callV X r 1 (sX10_refuse hch5) zf10 hk4 ydX10_refuse w_ml_RX10_56 w_instanceMethod_X10_refuse w_sel_X10_refuse w_ini_RX10 w_code_X10_refuse (by rw [hRf, hRl]; decide) rfl (st := []) rfl rfl (Nat.le_of_ble_eq_true rfl) dX10_kept_36 ?_
    obtain ⟨rfl, rfl⟩ := zsm hf
    exact a_iret X hr dX10_kept_39
  · have hf := zpos hq hf
    refine a_aload_n X 0 dX10_kept_8 rfl ?_
    refine a_iload_n X 2 dX10_kept_9 rfl ?_
    obtain ⟨hk7, hf⟩ := zite hf
    obtain ⟨v9, h8, hch8, hf⟩ := zc2_e hf
    refine a_callV X r 1 (sX10_noHand hch8) zf10 hk7 ydX10_noHand w_ml_RX10_106 w_instanceMethod_X10_noHand w_sel_X10_noHand w_ini_RX10 w_code_X10_noHand (by rw [hRf, hRl]; decide) rfl (st := []) rfl rfl (Nat.le_of_ble_eq_true rfl) dX10_kept_10 ?_
    refine a_if_ne X 34 dX10_kept_13 (by decide) (fun hq => ?_) (fun hq => ?_)
    · have hf := zneg hq hf
      refine a_aload_n X 0 dX10_kept_34 rfl ?_
      refine a_iconst X (v := 1) dX10_kept_35 (by decide) ?_
      obtain ⟨hk10, hf⟩ := zite hf
      obtain ⟨v12, h11, hch11, hf⟩ := zc2_e hf
      refine a_callV X r 1 (sX10_refuse hch11) zf10 hk10 ydX10_refuse w_ml_RX10_56 w_instanceMethod_X10_refuse w_sel_X10_refuse w_ini_RX10 w_code_X10_refuse (by rw [hRf, hRl]; decide) rfl (st := []) rfl rfl (Nat.le_of_ble_eq_true rfl) dX10_kept_36 ?_
      obtain ⟨rfl, rfl⟩ := zsm hf
      exact a_iret X hr dX10_kept_39
    · have hf := zpos hq hf
      refine a_iload_n X 3 dX10_kept_16 rfl ?_
      refine a_if_lt X 34 dX10_kept_17 (by decide) (fun hq => ?_) (fun hq => ?_)
      · have hf := zpos hq hf
        refine a_aload_n X 0 dX10_kept_34 rfl ?_
        refine a_iconst X (v := 1) dX10_kept_35 (by decide) ?_
        obtain ⟨hk13, hf⟩ := zite hf
        obtain ⟨v15, h14, hch14, hf⟩ := zc2_e hf
        refine a_callV X r 1 (sX10_refuse hch14) zf10 hk13 ydX10_refuse w_ml_RX10_56 w_instanceMethod_X10_refuse w_sel_X10_refuse w_ini_RX10 w_code_X10_refuse (by rw [hRf, hRl]; decide) rfl (st := []) rfl rfl (Nat.le_of_ble_eq_true rfl) dX10_kept_36 ?_
        obtain ⟨rfl, rfl⟩ := zsm hf
        exact a_iret X hr dX10_kept_39
      · have hf := zneg hq hf
        refine a_iload_n X 3 dX10_kept_20 rfl ?_
        refine a_aload_n X 0 dX10_kept_21 rfl ?_
        obtain ⟨hk16, hf⟩ := zite hf
        obtain ⟨r_17, hr_17, hf⟩ := zbd hf
        refine a_get X zf10 hk16 3 (by decide) w_f_RX10_23 rfl (zfv_r hr_17 rfl) dX10_kept_22 ?_
        obtain ⟨hk18, hf⟩ := zite hf
        obtain ⟨r_19, hr_19, hf⟩ := zbd hf
        refine a_get X zf9 hk18 1 (by decide) w_f_RX10_94 rfl (zfv_r hr_19 rfl) dX10_kept_25 ?_
        obtain ⟨hk20, hf⟩ := zite hf
        refine a_get X zf0 hk20 4 (by decide) w_f_RX10_169 rfl rfl dX10_kept_28 ?_
        refine a_icmp_lt X 40 dX10_kept_31 (by decide) (fun hq => ?_) (fun hq => ?_)
        · have hf := zpos hq hf
          refine a_aload_n X 0 dX10_kept_40 rfl ?_
          obtain ⟨r_21, hr_21, hf⟩ := zbd hf
          refine a_get X zf10 hk16 5 (by decide) w_f_RX10_33 rfl (zfv_r hr_21 rfl) dX10_kept_41 ?_
          refine a_iload_n X 1 dX10_kept_44 rfl ?_
          obtain ⟨hk22, hf⟩ := zite hf
          obtain ⟨v24, h23, hch23, hf⟩ := zc2_e hf
          refine a_callVA X r 1 (sX4_laidBy hch23) zf4 hk22 ydX4_laidBy w_ml_RX10_160 w_instanceMethod_X4_laidBy w_sel_X4_laidBy w_ini_RX4 w_code_X4_laidBy (by rw [hRf, hRl]; decide) rfl (st := []) rfl rfl (Nat.le_of_ble_eq_true rfl) dX10_kept_45 ?_
          obtain ⟨hk25, hf⟩ := zite hf
          obtain ⟨r_26, hr_26, hf⟩ := zbd hf
          refine a_get X zf2 hk25 1 (by decide) w_f_RX10_164 rfl (zfv_r hr_26 rfl) dX10_kept_48 ?_
          refine a_iload_n X 2 dX10_kept_51 rfl ?_
          obtain ⟨hk27, hf⟩ := zite hf
          obtain ⟨hi28, hf⟩ := zite hf
          refine a_iald X hk27 hi28 dX10_kept_52 ?_
          refine a_topi (fun y29 ey29 => ?_)
          have hf := zlet_n ey29 hf
          refine a_istore X [(4, .int y29), (0, .ref (base + r0)), (1, .int x1), (2, .int x2), (3, .int x3)] dX10_kept_53 (by decide) rfl ?_
          refine a_iload X 0 dX10_kept_55 rfl ?_
          refine a_if_ge X 67 dX10_kept_57 (by decide) (fun hq => ?_) (fun hq => ?_)
          · have hf := zpos hq hf
            refine a_aload_n X 1 dX10_kept_67 rfl ?_
            obtain ⟨hk30, hf⟩ := zite hf
            obtain ⟨r_31, hr_31, hf⟩ := zbd hf
            refine a_get X zf10 hk30 3 (by decide) w_f_RX10_23 rfl (zfv_r hr_31 rfl) dX10_kept_68 ?_
            obtain ⟨hk32, hf⟩ := zite hf
            obtain ⟨r_33, hr_33, hf⟩ := zbd hf
            refine a_get X zf9 hk32 1 (by decide) w_f_RX10_94 rfl (zfv_r hr_33 rfl) dX10_kept_71 ?_
            refine a_iload X 0 dX10_kept_74 rfl ?_
            refine a_aload_n X 1 dX10_kept_76 rfl ?_
            obtain ⟨r_34, hr_34, hf⟩ := zbd hf
            refine a_get X zf10 hk30 11 (by decide) w_f_RX10_44 rfl (zfv_r hr_34 rfl) dX10_kept_77 ?_
            obtain ⟨hk35, hf⟩ := zite hf
            obtain ⟨h36, hch36, hf⟩ := zbd hf
            refine a_callV X r 2 (sX0_unpackRow hch36) zf0 hk35 ydX0_unpackRow w_ml_RX10_134 w_instanceMethod_X0_unpackRow w_sel_X0_unpackRow w_ini_RX0 w_code_X0_unpackRow (by rw [hRf, hRl]; decide) rfl (st := []) rfl rfl (Nat.le_of_ble_eq_true rfl) dX10_kept_80 ?_
            refine a_aload_n X 1 dX10_kept_83 rfl ?_
            refine a_aload_n X 1 dX10_kept_84 rfl ?_
            obtain ⟨hk37, hf⟩ := zite hf
            obtain ⟨r_38, hr_38, hf⟩ := zbd hf
            refine a_get X zf10 hk37 3 (by decide) w_f_RX10_23 rfl (zfv_r hr_38 rfl) dX10_kept_85 ?_
            obtain ⟨hk39, hf⟩ := zite hf
            obtain ⟨r_40, hr_40, hf⟩ := zbd hf
            refine a_get X zf9 hk39 1 (by decide) w_f_RX10_94 rfl (zfv_r hr_40 rfl) dX10_kept_88 ?_
            refine a_aload_n X 1 dX10_kept_91 rfl ?_
            obtain ⟨r_41, hr_41, hf⟩ := zbd hf
            refine a_get X zf10 hk37 11 (by decide) w_f_RX10_44 rfl (zfv_r hr_41 rfl) dX10_kept_92 ?_
            refine a_aload_n X 1 dX10_kept_95 rfl ?_
            obtain ⟨r_42, hr_42, hf⟩ := zbd hf
            refine a_get X zf10 hk37 5 (by decide) w_f_RX10_33 rfl (zfv_r hr_42 rfl) dX10_kept_96 ?_
            obtain ⟨hk43, hf⟩ := zite hf
            obtain ⟨r_44, hr_44, hf⟩ := zbd hf
            refine a_get X zf4 hk43 0 (by decide) w_f_RX10_113 rfl (zfv_r hr_44 rfl) dX10_kept_99 ?_
            refine a_iload_n X 3 dX10_kept_102 rfl ?_
            obtain ⟨hk45, hf⟩ := zite hf
            obtain ⟨hi46, hf⟩ := zite hf
            refine a_iald X hk45 hi46 dX10_kept_103 ?_
            refine a_iload_n X 4 dX10_kept_104 rfl ?_
            obtain ⟨hk47, hf⟩ := zite hf
            obtain ⟨v49, h48, hch48, hf⟩ := zc2_e hf
            refine a_callV X r 3 (sX0_keptCard hch48) zf0 hk47 ydX0_keptCard w_ml_RX10_172 w_instanceMethod_X0_keptCard w_sel_X0_keptCard w_ini_RX0 w_code_X0_keptCard (by rw [hRf, hRl]; decide) rfl (st := [.ref (base + r0)]) rfl rfl (Nat.le_of_ble_eq_true rfl) dX10_kept_105 ?_
            obtain ⟨hk50, hf⟩ := zite hf
            obtain ⟨v52, h51, hch51, hf⟩ := zc2_e hf
            refine a_callV X r 1 (sX10_answer hch51) zf10 hk50 ydX10_answer w_ml_RX10_84 w_instanceMethod_X10_answer w_sel_X10_answer w_ini_RX10 w_code_X10_answer (by rw [hRf, hRl]; decide) rfl (st := []) rfl rfl (Nat.le_of_ble_eq_true rfl) dX10_kept_108 ?_
            obtain ⟨rfl, rfl⟩ := zsm hf
            exact a_iret X hr dX10_kept_111
          · have hf := zneg hq hf
            refine a_aload_n X 1 dX10_kept_60 rfl ?_
            refine a_bipush X (v := 6) dX10_kept_61 (by decide) ?_
            obtain ⟨hk53, hf⟩ := zite hf
            obtain ⟨v55, h54, hch54, hf⟩ := zc2_e hf
            refine a_callV X r 1 (sX10_refuse hch54) zf10 hk53 ydX10_refuse w_ml_RX10_56 w_instanceMethod_X10_refuse w_sel_X10_refuse w_ini_RX10 w_code_X10_refuse (by rw [hRf, hRl]; decide) rfl (st := []) rfl rfl (Nat.le_of_ble_eq_true rfl) dX10_kept_63 ?_
            obtain ⟨rfl, rfl⟩ := zsm hf
            exact a_iret X hr dX10_kept_66
        · have hf := zneg hq hf
          refine a_aload_n X 0 dX10_kept_34 rfl ?_
          refine a_iconst X (v := 1) dX10_kept_35 (by decide) ?_
          obtain ⟨v57, h56, hch56, hf⟩ := zc2_e hf
          refine a_callV X r 1 (sX10_refuse hch56) zf10 hk16 ydX10_refuse w_ml_RX10_56 w_instanceMethod_X10_refuse w_sel_X10_refuse w_ini_RX10 w_code_X10_refuse (by rw [hRf, hRl]; decide) rfl (st := []) rfl rfl (Nat.le_of_ble_eq_true rfl) dX10_kept_36 ?_
          obtain ⟨rfl, rfl⟩ := zsm hf
          exact a_iret X hr dX10_kept_39

set_option maxHeartbeats 4000000 in
set_option maxRecDepth 100000 in
theorem sX10_says {l : Launch} {D : va_G} {cA : Nat → ClassId} {base : Nat} {sA : Nat → Nat} {r0 : Nat} {x1 : Int32} {x2 : Int32} {h hE : Zh} {rE : Int32} (hf : fX10_says r0 x1 x2 h = some (rE, hE)) : zCA l yX10_says cX10_says 3 (some .int) 7 170 D cA base sA [.ref (base + r0), .int x1, .int x2] h (some (.int rE)) hE := by
  refine a_entry RX10 (by decide) rfl (Nat.le_of_ble_eq_true rfl) ?_
  intro p e R s m args below meth c hRf hRl r hin X hr
  unfold fX10_says at hf
  have hf := zlet_n (x := h) rfl hf
  show zGA p l e R s m args below meth c (MQ below (zQA D cA base h hE (some (.int rE))) args s (zNC - zN h) (zNS - zS h) (zA base)) 3 D cA base h 0 [(0, .ref (base + r0)), (1, .int x1), (2, .int x2)] [] h
  refine a_aload_n X 0 dX10_says_0 rfl ?_
  refine a_iload_n X 1 dX10_says_1 rfl ?_
  obtain ⟨hk1, hf⟩ := zite hf
  obtain ⟨v3, h2, hch2, hf⟩ := zc2_e hf
  refine a_callV X r 1 (sX10_noRule hch2) zf10 hk1 ydX10_noRule w_ml_RX10_157 w_instanceMethod_X10_noRule w_sel_X10_noRule w_ini_RX10 w_code_X10_noRule (by rw [hRf, hRl]; decide) rfl (st := []) rfl rfl (Nat.le_of_ble_eq_true rfl) dX10_says_2 ?_
  refine a_if_ne X 16 dX10_says_5 (by decide) (fun hq => ?_) (fun hq => ?_)
  · have hf := zneg hq hf
    refine a_aload_n X 0 dX10_says_16 rfl ?_
    refine a_iconst X (v := 1) dX10_says_17 (by decide) ?_
    obtain ⟨hk4, hf⟩ := zite hf
    obtain ⟨v6, h5, hch5, hf⟩ := zc2_e hf
    refine a_callV X r 1 (sX10_refuse hch5) zf10 hk4 ydX10_refuse w_ml_RX10_56 w_instanceMethod_X10_refuse w_sel_X10_refuse w_ini_RX10 w_code_X10_refuse (by rw [hRf, hRl]; decide) rfl (st := []) rfl rfl (Nat.le_of_ble_eq_true rfl) dX10_says_18 ?_
    obtain ⟨rfl, rfl⟩ := zsm hf
    exact a_iret X hr dX10_says_21
  · have hf := zpos hq hf
    refine a_aload_n X 0 dX10_says_8 rfl ?_
    refine a_iload_n X 2 dX10_says_9 rfl ?_
    obtain ⟨hk7, hf⟩ := zite hf
    obtain ⟨v9, h8, hch8, hf⟩ := zc2_e hf
    refine a_callV X r 1 (sX10_noRow hch8) zf10 hk7 ydX10_noRow w_ml_RX10_128 w_instanceMethod_X10_noRow w_sel_X10_noRow w_ini_RX10 w_code_X10_noRow (by rw [hRf, hRl]; decide) rfl (st := []) rfl rfl (Nat.le_of_ble_eq_true rfl) dX10_says_10 ?_
    refine a_if_eq X 22 dX10_says_13 (by decide) (fun hq => ?_) (fun hq => ?_)
    · have hf := zpos hq hf
      refine a_aload_n X 0 dX10_says_22 rfl ?_
      refine a_aload_n X 0 dX10_says_23 rfl ?_
      obtain ⟨hk10, hf⟩ := zite hf
      obtain ⟨r_11, hr_11, hf⟩ := zbd hf
      refine a_get X zf10 hk10 5 (by decide) w_f_RX10_33 rfl (zfv_r hr_11 rfl) dX10_says_24 ?_
      refine a_aload_n X 0 dX10_says_27 rfl ?_
      obtain ⟨r_12, hr_12, hf⟩ := zbd hf
      refine a_get X zf10 hk10 5 (by decide) w_f_RX10_33 rfl (zfv_r hr_12 rfl) dX10_says_28 ?_
      refine a_iload_n X 1 dX10_says_31 rfl ?_
      obtain ⟨hk13, hf⟩ := zite hf
      obtain ⟨v15, h14, hch14, hf⟩ := zc2_e hf
      refine a_callVA X r 1 (sX4_laidBy hch14) zf4 hk13 ydX4_laidBy w_ml_RX10_160 w_instanceMethod_X4_laidBy w_sel_X4_laidBy w_ini_RX4 w_code_X4_laidBy (by rw [hRf, hRl]; decide) rfl (st := [.ref (base + r_11), .ref (base + r0)]) rfl rfl (Nat.le_of_ble_eq_true rfl) dX10_says_32 ?_
      refine a_iload_n X 2 dX10_says_35 rfl ?_
      obtain ⟨hk16, hf⟩ := zite hf
      obtain ⟨v18, h17, hch17, hf⟩ := zc2_e hf
      refine a_callV X r 2 (sX4_firstLaid hch17) zf4 hk16 ydX4_firstLaid w_ml_RX10_176 w_instanceMethod_X4_firstLaid w_sel_X4_firstLaid w_ini_RX4 w_code_X4_firstLaid (by rw [hRf, hRl]; decide) rfl (st := [.ref (base + r0)]) rfl rfl (Nat.le_of_ble_eq_true rfl) dX10_says_36 ?_
      obtain ⟨hk19, hf⟩ := zite hf
      obtain ⟨v21, h20, hch20, hf⟩ := zc2_e hf
      refine a_callV X r 1 (sX10_answer hch20) zf10 hk19 ydX10_answer w_ml_RX10_84 w_instanceMethod_X10_answer w_sel_X10_answer w_ini_RX10 w_code_X10_answer (by rw [hRf, hRl]; decide) rfl (st := []) rfl rfl (Nat.le_of_ble_eq_true rfl) dX10_says_39 ?_
      obtain ⟨rfl, rfl⟩ := zsm hf
      exact a_iret X hr dX10_says_42
    · have hf := zneg hq hf
      refine a_aload_n X 0 dX10_says_16 rfl ?_
      refine a_iconst X (v := 1) dX10_says_17 (by decide) ?_
      obtain ⟨hk22, hf⟩ := zite hf
      obtain ⟨v24, h23, hch23, hf⟩ := zc2_e hf
      refine a_callV X r 1 (sX10_refuse hch23) zf10 hk22 ydX10_refuse w_ml_RX10_56 w_instanceMethod_X10_refuse w_sel_X10_refuse w_ini_RX10 w_code_X10_refuse (by rw [hRf, hRl]; decide) rfl (st := []) rfl rfl (Nat.le_of_ble_eq_true rfl) dX10_says_18 ?_
      obtain ⟨rfl, rfl⟩ := zsm hf
      exact a_iret X hr dX10_says_21

set_option maxHeartbeats 4000000 in
set_option maxRecDepth 100000 in
theorem sX10_works {l : Launch} {D : va_G} {cA : Nat → ClassId} {base : Nat} {sA : Nat → Nat} {r0 : Nat} {x1 : Int32} {h hE : Zh} {rE : Int32} (hf : fX10_works r0 x1 h = some (rE, hE)) : zCA l yX10_works cX10_works 3 (some .int) 7 170 D cA base sA [.ref (base + r0), .int x1] h (some (.int rE)) hE := by
  refine a_entry RX10 (by decide) rfl (Nat.le_of_ble_eq_true rfl) ?_
  intro p e R s m args below meth c hRf hRl r hin X hr
  unfold fX10_works at hf
  have hf := zlet_n (x := h) rfl hf
  show zGA p l e R s m args below meth c (MQ below (zQA D cA base h hE (some (.int rE))) args s (zNC - zN h) (zNS - zS h) (zA base)) 3 D cA base h 0 [(0, .ref (base + r0)), (1, .int x1)] [] h
  refine a_aload_n X 0 dX10_works_0 rfl ?_
  refine a_iload_n X 1 dX10_works_1 rfl ?_
  obtain ⟨hk1, hf⟩ := zite hf
  obtain ⟨v3, h2, hch2, hf⟩ := zc2_e hf
  refine a_callV X r 1 (sX10_noRule hch2) zf10 hk1 ydX10_noRule w_ml_RX10_157 w_instanceMethod_X10_noRule w_sel_X10_noRule w_ini_RX10 w_code_X10_noRule (by rw [hRf, hRl]; decide) rfl (st := []) rfl rfl (Nat.le_of_ble_eq_true rfl) dX10_works_2 ?_
  refine a_if_eq X 14 dX10_works_5 (by decide) (fun hq => ?_) (fun hq => ?_)
  · have hf := zpos hq hf
    refine a_aload_n X 0 dX10_works_14 rfl ?_
    obtain ⟨hk4, hf⟩ := zite hf
    obtain ⟨r_5, hr_5, hf⟩ := zbd hf
    refine a_get X zf10 hk4 5 (by decide) w_f_RX10_33 rfl (zfv_r hr_5 rfl) dX10_works_15 ?_
    refine a_iload_n X 1 dX10_works_18 rfl ?_
    obtain ⟨hk6, hf⟩ := zite hf
    obtain ⟨v8, h7, hch7, hf⟩ := zc2_e hf
    refine a_callVA X r 1 (sX4_laidBy hch7) zf4 hk6 ydX4_laidBy w_ml_RX10_160 w_instanceMethod_X4_laidBy w_sel_X4_laidBy w_ini_RX4 w_code_X4_laidBy (by rw [hRf, hRl]; decide) rfl (st := []) rfl rfl (Nat.le_of_ble_eq_true rfl) dX10_works_19 ?_
    refine a_astore_n X [(2, .ref (base + v8)), (0, .ref (base + r0)), (1, .int x1)] dX10_works_22 (by decide) rfl ?_
    refine a_aload_n X 1 dX10_works_23 rfl ?_
    refine a_aload_n X 0 dX10_works_24 rfl ?_
    obtain ⟨hk9, hf⟩ := zite hf
    refine a_get X zf2 hk9 3 (by decide) w_f_RX10_180 rfl rfl dX10_works_25 ?_
    refine a_if_ne X 42 dX10_works_28 (by decide) (fun hq => ?_) (fun hq => ?_)
    · have hf := zneg hq hf
      refine a_iconst X (v := 0) dX10_works_42 (by decide) ?_
      obtain ⟨hk10, hf⟩ := zite hf
      obtain ⟨v12, h11, hch11, hf⟩ := zc2_e hf
      refine a_callV X r 1 (sX10_answerWhether hch11) zf10 hk10 ydX10_answerWhether w_ml_RX10_145 w_instanceMethod_X10_answerWhether w_sel_X10_answerWhether w_ini_RX10 w_code_X10_answerWhether (by rw [hRf, hRl]; decide) rfl (st := []) rfl rfl (Nat.le_of_ble_eq_true rfl) dX10_works_43 ?_
      obtain ⟨rfl, rfl⟩ := zsm hf
      exact a_iret X hr dX10_works_46
    · have hf := zpos hq hf
      refine a_aload_n X 0 dX10_works_31 rfl ?_
      refine a_get X zf2 hk9 5 (by decide) w_f_RX10_183 rfl rfl dX10_works_32 ?_
      refine a_if_ge X 42 dX10_works_35 (by decide) (fun hq => ?_) (fun hq => ?_)
      · have hf := zpos hq hf
        refine a_iconst X (v := 0) dX10_works_42 (by decide) ?_
        obtain ⟨hk13, hf⟩ := zite hf
        obtain ⟨v15, h14, hch14, hf⟩ := zc2_e hf
        refine a_callV X r 1 (sX10_answerWhether hch14) zf10 hk13 ydX10_answerWhether w_ml_RX10_145 w_instanceMethod_X10_answerWhether w_sel_X10_answerWhether w_ini_RX10 w_code_X10_answerWhether (by rw [hRf, hRl]; decide) rfl (st := []) rfl rfl (Nat.le_of_ble_eq_true rfl) dX10_works_43 ?_
        obtain ⟨rfl, rfl⟩ := zsm hf
        exact a_iret X hr dX10_works_46
      · have hf := zneg hq hf
        refine a_iconst X (v := 1) dX10_works_38 (by decide) ?_
        refine a_goto X 43 dX10_works_39 (by decide) ?_
        obtain ⟨hk16, hf⟩ := zite hf
        obtain ⟨v18, h17, hch17, hf⟩ := zc2_e hf
        refine a_callV X r 1 (sX10_answerWhether hch17) zf10 hk16 ydX10_answerWhether w_ml_RX10_145 w_instanceMethod_X10_answerWhether w_sel_X10_answerWhether w_ini_RX10 w_code_X10_answerWhether (by rw [hRf, hRl]; decide) rfl (st := []) rfl rfl (Nat.le_of_ble_eq_true rfl) dX10_works_43 ?_
        obtain ⟨rfl, rfl⟩ := zsm hf
        exact a_iret X hr dX10_works_46
  · have hf := zneg hq hf
    refine a_aload_n X 0 dX10_works_8 rfl ?_
    refine a_iconst X (v := 1) dX10_works_9 (by decide) ?_
    obtain ⟨hk19, hf⟩ := zite hf
    obtain ⟨v21, h20, hch20, hf⟩ := zc2_e hf
    refine a_callV X r 1 (sX10_refuse hch20) zf10 hk19 ydX10_refuse w_ml_RX10_56 w_instanceMethod_X10_refuse w_sel_X10_refuse w_ini_RX10 w_code_X10_refuse (by rw [hRf, hRl]; decide) rfl (st := []) rfl rfl (Nat.le_of_ble_eq_true rfl) dX10_works_10 ?_
    obtain ⟨rfl, rfl⟩ := zsm hf
    exact a_iret X hr dX10_works_13

set_option maxHeartbeats 4000000 in
set_option maxRecDepth 100000 in
theorem sX10_clash {l : Launch} {D : va_G} {cA : Nat → ClassId} {base : Nat} {sA : Nat → Nat} {r0 : Nat} {x1 : Int32} {x2 : Int32} {h hE : Zh} {rE : Int32} (hf : fX10_clash r0 x1 x2 h = some (rE, hE)) : zCA l yX10_clash cX10_clash 4 (some .int) 7 170 D cA base sA [.ref (base + r0), .int x1, .int x2] h (some (.int rE)) hE := by
  refine a_entry RX10 (by decide) rfl (Nat.le_of_ble_eq_true rfl) ?_
  intro p e R s m args below meth c hRf hRl r hin X hr
  unfold fX10_clash at hf
  have hf := zlet_n (x := h) rfl hf
  show zGA p l e R s m args below meth c (MQ below (zQA D cA base h hE (some (.int rE))) args s (zNC - zN h) (zNS - zS h) (zA base)) 4 D cA base h 0 [(0, .ref (base + r0)), (1, .int x1), (2, .int x2)] [] h
  refine a_aload_n X 0 dX10_clash_0 rfl ?_
  refine a_iload_n X 1 dX10_clash_1 rfl ?_
  obtain ⟨hk1, hf⟩ := zite hf
  obtain ⟨v3, h2, hch2, hf⟩ := zc2_e hf
  refine a_callV X r 1 (sX10_noRule hch2) zf10 hk1 ydX10_noRule w_ml_RX10_157 w_instanceMethod_X10_noRule w_sel_X10_noRule w_ini_RX10 w_code_X10_noRule (by rw [hRf, hRl]; decide) rfl (st := []) rfl rfl (Nat.le_of_ble_eq_true rfl) dX10_clash_2 ?_
  refine a_if_eq X 14 dX10_clash_5 (by decide) (fun hq => ?_) (fun hq => ?_)
  · have hf := zpos hq hf
    refine a_aload_n X 0 dX10_clash_14 rfl ?_
    obtain ⟨hk4, hf⟩ := zite hf
    obtain ⟨r_5, hr_5, hf⟩ := zbd hf
    refine a_get X zf10 hk4 5 (by decide) w_f_RX10_33 rfl (zfv_r hr_5 rfl) dX10_clash_15 ?_
    refine a_iload_n X 1 dX10_clash_18 rfl ?_
    obtain ⟨hk6, hf⟩ := zite hf
    obtain ⟨v8, h7, hch7, hf⟩ := zc2_e hf
    refine a_callVA X r 1 (sX4_laidBy hch7) zf4 hk6 ydX4_laidBy w_ml_RX10_160 w_instanceMethod_X4_laidBy w_sel_X4_laidBy w_ini_RX4 w_code_X4_laidBy (by rw [hRf, hRl]; decide) rfl (st := []) rfl rfl (Nat.le_of_ble_eq_true rfl) dX10_clash_19 ?_
    refine a_astore_n X [(3, .ref (base + v8)), (0, .ref (base + r0)), (1, .int x1), (2, .int x2)] dX10_clash_22 (by decide) rfl ?_
    refine a_aload_n X 1 dX10_clash_23 rfl ?_
    refine a_iload_n X 3 dX10_clash_24 rfl ?_
    refine a_if_eq X 35 dX10_clash_25 (by decide) (fun hq => ?_) (fun hq => ?_)
    · have hf := zpos hq hf
      refine a_aload_n X 0 dX10_clash_35 rfl ?_
      obtain ⟨hk9, hf⟩ := zite hf
      refine a_get X zf2 hk9 5 (by decide) w_f_RX10_183 rfl rfl dX10_clash_36 ?_
      obtain ⟨hk10, hf⟩ := zite hf
      obtain ⟨v12, h11, hch11, hf⟩ := zc2_e hf
      refine a_callV X r 1 (sX10_answer hch11) zf10 hk10 ydX10_answer w_ml_RX10_84 w_instanceMethod_X10_answer w_sel_X10_answer w_ini_RX10 w_code_X10_answer (by rw [hRf, hRl]; decide) rfl (st := []) rfl rfl (Nat.le_of_ble_eq_true rfl) dX10_clash_39 ?_
      obtain ⟨rfl, rfl⟩ := zsm hf
      exact a_iret X hr dX10_clash_42
    · have hf := zneg hq hf
      refine a_aload_n X 0 dX10_clash_28 rfl ?_
      obtain ⟨hk13, hf⟩ := zite hf
      refine a_get X zf2 hk13 6 (by decide) w_f_RX10_186 rfl rfl dX10_clash_29 ?_
      refine a_goto X 39 dX10_clash_32 (by decide) ?_
      obtain ⟨hk14, hf⟩ := zite hf
      obtain ⟨v16, h15, hch15, hf⟩ := zc2_e hf
      refine a_callV X r 1 (sX10_answer hch15) zf10 hk14 ydX10_answer w_ml_RX10_84 w_instanceMethod_X10_answer w_sel_X10_answer w_ini_RX10 w_code_X10_answer (by rw [hRf, hRl]; decide) rfl (st := []) rfl rfl (Nat.le_of_ble_eq_true rfl) dX10_clash_39 ?_
      obtain ⟨rfl, rfl⟩ := zsm hf
      exact a_iret X hr dX10_clash_42
  · have hf := zneg hq hf
    refine a_aload_n X 0 dX10_clash_8 rfl ?_
    refine a_iconst X (v := 1) dX10_clash_9 (by decide) ?_
    obtain ⟨hk17, hf⟩ := zite hf
    obtain ⟨v19, h18, hch18, hf⟩ := zc2_e hf
    refine a_callV X r 1 (sX10_refuse hch18) zf10 hk17 ydX10_refuse w_ml_RX10_56 w_instanceMethod_X10_refuse w_sel_X10_refuse w_ini_RX10 w_code_X10_refuse (by rw [hRf, hRl]; decide) rfl (st := []) rfl rfl (Nat.le_of_ble_eq_true rfl) dX10_clash_10 ?_
    obtain ⟨rfl, rfl⟩ := zsm hf
    exact a_iret X hr dX10_clash_13

set_option maxHeartbeats 4000000 in
set_option maxRecDepth 100000 in
theorem sX10_laid {l : Launch} {D : va_G} {cA : Nat → ClassId} {base : Nat} {sA : Nat → Nat} {r0 : Nat} {x1 : Int32} {h hE : Zh} {rE : Int32} (hf : fX10_laid r0 x1 h = some (rE, hE)) : zCA l yX10_laid cX10_laid 2 (some .int) 7 170 D cA base sA [.ref (base + r0), .int x1] h (some (.int rE)) hE := by
  refine a_entry RX10 (by decide) rfl (Nat.le_of_ble_eq_true rfl) ?_
  intro p e R s m args below meth c hRf hRl r hin X hr
  unfold fX10_laid at hf
  have hf := zlet_n (x := h) rfl hf
  show zGA p l e R s m args below meth c (MQ below (zQA D cA base h hE (some (.int rE))) args s (zNC - zN h) (zNS - zS h) (zA base)) 2 D cA base h 0 [(0, .ref (base + r0)), (1, .int x1)] [] h
  refine a_aload_n X 0 dX10_laid_0 rfl ?_
  refine a_iload_n X 1 dX10_laid_1 rfl ?_
  obtain ⟨hk1, hf⟩ := zite hf
  obtain ⟨v3, h2, hch2, hf⟩ := zc2_e hf
  refine a_callV X r 1 (sX10_noRule hch2) zf10 hk1 ydX10_noRule w_ml_RX10_157 w_instanceMethod_X10_noRule w_sel_X10_noRule w_ini_RX10 w_code_X10_noRule (by rw [hRf, hRl]; decide) rfl (st := []) rfl rfl (Nat.le_of_ble_eq_true rfl) dX10_laid_2 ?_
  refine a_if_eq X 14 dX10_laid_5 (by decide) (fun hq => ?_) (fun hq => ?_)
  · have hf := zpos hq hf
    refine a_aload_n X 0 dX10_laid_14 rfl ?_
    refine a_aload_n X 0 dX10_laid_15 rfl ?_
    obtain ⟨hk4, hf⟩ := zite hf
    obtain ⟨r_5, hr_5, hf⟩ := zbd hf
    refine a_get X zf10 hk4 5 (by decide) w_f_RX10_33 rfl (zfv_r hr_5 rfl) dX10_laid_16 ?_
    refine a_iload_n X 1 dX10_laid_19 rfl ?_
    obtain ⟨hk6, hf⟩ := zite hf
    obtain ⟨v8, h7, hch7, hf⟩ := zc2_e hf
    refine a_callVA X r 1 (sX4_laidBy hch7) zf4 hk6 ydX4_laidBy w_ml_RX10_160 w_instanceMethod_X4_laidBy w_sel_X4_laidBy w_ini_RX4 w_code_X4_laidBy (by rw [hRf, hRl]; decide) rfl (st := [.ref (base + r0)]) rfl rfl (Nat.le_of_ble_eq_true rfl) dX10_laid_20 ?_
    obtain ⟨hk9, hf⟩ := zite hf
    refine a_get X zf2 hk9 4 (by decide) w_f_RX10_189 rfl rfl dX10_laid_23 ?_
    obtain ⟨hk10, hf⟩ := zite hf
    obtain ⟨v12, h11, hch11, hf⟩ := zc2_e hf
    refine a_callV X r 1 (sX10_answer hch11) zf10 hk10 ydX10_answer w_ml_RX10_84 w_instanceMethod_X10_answer w_sel_X10_answer w_ini_RX10 w_code_X10_answer (by rw [hRf, hRl]; decide) rfl (st := []) rfl rfl (Nat.le_of_ble_eq_true rfl) dX10_laid_26 ?_
    obtain ⟨rfl, rfl⟩ := zsm hf
    exact a_iret X hr dX10_laid_29
  · have hf := zneg hq hf
    refine a_aload_n X 0 dX10_laid_8 rfl ?_
    refine a_iconst X (v := 1) dX10_laid_9 (by decide) ?_
    obtain ⟨hk13, hf⟩ := zite hf
    obtain ⟨v15, h14, hch14, hf⟩ := zc2_e hf
    refine a_callV X r 1 (sX10_refuse hch14) zf10 hk13 ydX10_refuse w_ml_RX10_56 w_instanceMethod_X10_refuse w_sel_X10_refuse w_ini_RX10 w_code_X10_refuse (by rw [hRf, hRl]; decide) rfl (st := []) rfl rfl (Nat.le_of_ble_eq_true rfl) dX10_laid_10 ?_
    obtain ⟨rfl, rfl⟩ := zsm hf
    exact a_iret X hr dX10_laid_13

set_option maxHeartbeats 4000000 in
set_option maxRecDepth 100000 in
theorem sX10_fails {l : Launch} {D : va_G} {cA : Nat → ClassId} {base : Nat} {sA : Nat → Nat} {r0 : Nat} {x1 : Int32} {h hE : Zh} {rE : Int32} (hf : fX10_fails r0 x1 h = some (rE, hE)) : zCA l yX10_fails cX10_fails 2 (some .int) 7 170 D cA base sA [.ref (base + r0), .int x1] h (some (.int rE)) hE := by
  refine a_entry RX10 (by decide) rfl (Nat.le_of_ble_eq_true rfl) ?_
  intro p e R s m args below meth c hRf hRl r hin X hr
  unfold fX10_fails at hf
  have hf := zlet_n (x := h) rfl hf
  show zGA p l e R s m args below meth c (MQ below (zQA D cA base h hE (some (.int rE))) args s (zNC - zN h) (zNS - zS h) (zA base)) 2 D cA base h 0 [(0, .ref (base + r0)), (1, .int x1)] [] h
  refine a_aload_n X 0 dX10_fails_0 rfl ?_
  refine a_iload_n X 1 dX10_fails_1 rfl ?_
  obtain ⟨hk1, hf⟩ := zite hf
  obtain ⟨v3, h2, hch2, hf⟩ := zc2_e hf
  refine a_callV X r 1 (sX10_noRule hch2) zf10 hk1 ydX10_noRule w_ml_RX10_157 w_instanceMethod_X10_noRule w_sel_X10_noRule w_ini_RX10 w_code_X10_noRule (by rw [hRf, hRl]; decide) rfl (st := []) rfl rfl (Nat.le_of_ble_eq_true rfl) dX10_fails_2 ?_
  refine a_if_eq X 14 dX10_fails_5 (by decide) (fun hq => ?_) (fun hq => ?_)
  · have hf := zpos hq hf
    refine a_aload_n X 0 dX10_fails_14 rfl ?_
    refine a_aload_n X 0 dX10_fails_15 rfl ?_
    obtain ⟨hk4, hf⟩ := zite hf
    obtain ⟨r_5, hr_5, hf⟩ := zbd hf
    refine a_get X zf10 hk4 5 (by decide) w_f_RX10_33 rfl (zfv_r hr_5 rfl) dX10_fails_16 ?_
    refine a_iload_n X 1 dX10_fails_19 rfl ?_
    obtain ⟨hk6, hf⟩ := zite hf
    obtain ⟨v8, h7, hch7, hf⟩ := zc2_e hf
    refine a_callVA X r 1 (sX4_laidBy hch7) zf4 hk6 ydX4_laidBy w_ml_RX10_160 w_instanceMethod_X4_laidBy w_sel_X4_laidBy w_ini_RX4 w_code_X4_laidBy (by rw [hRf, hRl]; decide) rfl (st := [.ref (base + r0)]) rfl rfl (Nat.le_of_ble_eq_true rfl) dX10_fails_20 ?_
    obtain ⟨hk9, hf⟩ := zite hf
    refine a_get X zf2 hk9 3 (by decide) w_f_RX10_180 rfl rfl dX10_fails_23 ?_
    obtain ⟨hk10, hf⟩ := zite hf
    obtain ⟨v12, h11, hch11, hf⟩ := zc2_e hf
    refine a_callV X r 1 (sX10_answer hch11) zf10 hk10 ydX10_answer w_ml_RX10_84 w_instanceMethod_X10_answer w_sel_X10_answer w_ini_RX10 w_code_X10_answer (by rw [hRf, hRl]; decide) rfl (st := []) rfl rfl (Nat.le_of_ble_eq_true rfl) dX10_fails_26 ?_
    obtain ⟨rfl, rfl⟩ := zsm hf
    exact a_iret X hr dX10_fails_29
  · have hf := zneg hq hf
    refine a_aload_n X 0 dX10_fails_8 rfl ?_
    refine a_iconst X (v := 1) dX10_fails_9 (by decide) ?_
    obtain ⟨hk13, hf⟩ := zite hf
    obtain ⟨v15, h14, hch14, hf⟩ := zc2_e hf
    refine a_callV X r 1 (sX10_refuse hch14) zf10 hk13 ydX10_refuse w_ml_RX10_56 w_instanceMethod_X10_refuse w_sel_X10_refuse w_ini_RX10 w_code_X10_refuse (by rw [hRf, hRl]; decide) rfl (st := []) rfl rfl (Nat.le_of_ble_eq_true rfl) dX10_fails_10 ?_
    obtain ⟨rfl, rfl⟩ := zsm hf
    exact a_iret X hr dX10_fails_13

set_option maxHeartbeats 4000000 in
set_option maxRecDepth 100000 in
theorem sX10_seen {l : Launch} {D : va_G} {cA : Nat → ClassId} {base : Nat} {sA : Nat → Nat} {r0 : Nat} {x1 : Int32} {h hE : Zh} {rE : Int32} (hf : fX10_seen r0 x1 h = some (rE, hE)) : zCA l yX10_seen cX10_seen 2 (some .int) 7 170 D cA base sA [.ref (base + r0), .int x1] h (some (.int rE)) hE := by
  refine a_entry RX10 (by decide) rfl (Nat.le_of_ble_eq_true rfl) ?_
  intro p e R s m args below meth c hRf hRl r hin X hr
  unfold fX10_seen at hf
  have hf := zlet_n (x := h) rfl hf
  show zGA p l e R s m args below meth c (MQ below (zQA D cA base h hE (some (.int rE))) args s (zNC - zN h) (zNS - zS h) (zA base)) 2 D cA base h 0 [(0, .ref (base + r0)), (1, .int x1)] [] h
  refine a_aload_n X 0 dX10_seen_0 rfl ?_
  refine a_iload_n X 1 dX10_seen_1 rfl ?_
  obtain ⟨hk1, hf⟩ := zite hf
  obtain ⟨v3, h2, hch2, hf⟩ := zc2_e hf
  refine a_callV X r 1 (sX10_noRule hch2) zf10 hk1 ydX10_noRule w_ml_RX10_157 w_instanceMethod_X10_noRule w_sel_X10_noRule w_ini_RX10 w_code_X10_noRule (by rw [hRf, hRl]; decide) rfl (st := []) rfl rfl (Nat.le_of_ble_eq_true rfl) dX10_seen_2 ?_
  refine a_if_eq X 14 dX10_seen_5 (by decide) (fun hq => ?_) (fun hq => ?_)
  · have hf := zpos hq hf
    refine a_aload_n X 0 dX10_seen_14 rfl ?_
    refine a_aload_n X 0 dX10_seen_15 rfl ?_
    obtain ⟨hk4, hf⟩ := zite hf
    obtain ⟨r_5, hr_5, hf⟩ := zbd hf
    refine a_get X zf10 hk4 5 (by decide) w_f_RX10_33 rfl (zfv_r hr_5 rfl) dX10_seen_16 ?_
    refine a_aload_n X 0 dX10_seen_19 rfl ?_
    obtain ⟨r_6, hr_6, hf⟩ := zbd hf
    refine a_get X zf10 hk4 5 (by decide) w_f_RX10_33 rfl (zfv_r hr_6 rfl) dX10_seen_20 ?_
    refine a_iload_n X 1 dX10_seen_23 rfl ?_
    obtain ⟨hk7, hf⟩ := zite hf
    obtain ⟨v9, h8, hch8, hf⟩ := zc2_e hf
    refine a_callVA X r 1 (sX4_laidBy hch8) zf4 hk7 ydX4_laidBy w_ml_RX10_160 w_instanceMethod_X4_laidBy w_sel_X4_laidBy w_ini_RX4 w_code_X4_laidBy (by rw [hRf, hRl]; decide) rfl (st := [.ref (base + r_5), .ref (base + r0)]) rfl rfl (Nat.le_of_ble_eq_true rfl) dX10_seen_24 ?_
    obtain ⟨hk10, hf⟩ := zite hf
    obtain ⟨v12, h11, hch11, hf⟩ := zc2_e hf
    refine a_callV X r 1 (sX4_swapsJudged hch11) zf4 hk10 ydX4_swapsJudged w_ml_RX10_192 w_instanceMethod_X4_swapsJudged w_sel_X4_swapsJudged w_ini_RX4 w_code_X4_swapsJudged (by rw [hRf, hRl]; decide) rfl (st := [.ref (base + r0)]) rfl rfl (Nat.le_of_ble_eq_true rfl) dX10_seen_27 ?_
    obtain ⟨hk13, hf⟩ := zite hf
    refine a_get X zf2 hk13 8 (by decide) w_f_RX10_196 rfl rfl dX10_seen_30 ?_
    obtain ⟨hk14, hf⟩ := zite hf
    obtain ⟨v16, h15, hch15, hf⟩ := zc2_e hf
    refine a_callV X r 1 (sX10_answerWhether hch15) zf10 hk14 ydX10_answerWhether w_ml_RX10_145 w_instanceMethod_X10_answerWhether w_sel_X10_answerWhether w_ini_RX10 w_code_X10_answerWhether (by rw [hRf, hRl]; decide) rfl (st := []) rfl rfl (Nat.le_of_ble_eq_true rfl) dX10_seen_33 ?_
    obtain ⟨rfl, rfl⟩ := zsm hf
    exact a_iret X hr dX10_seen_36
  · have hf := zneg hq hf
    refine a_aload_n X 0 dX10_seen_8 rfl ?_
    refine a_iconst X (v := 1) dX10_seen_9 (by decide) ?_
    obtain ⟨hk17, hf⟩ := zite hf
    obtain ⟨v19, h18, hch18, hf⟩ := zc2_e hf
    refine a_callV X r 1 (sX10_refuse hch18) zf10 hk17 ydX10_refuse w_ml_RX10_56 w_instanceMethod_X10_refuse w_sel_X10_refuse w_ini_RX10 w_code_X10_refuse (by rw [hRf, hRl]; decide) rfl (st := []) rfl rfl (Nat.le_of_ble_eq_true rfl) dX10_seen_10 ?_
    obtain ⟨rfl, rfl⟩ := zsm hf
    exact a_iret X hr dX10_seen_13

set_option maxHeartbeats 4000000 in
set_option maxRecDepth 100000 in
theorem sX10_borne {l : Launch} {D : va_G} {cA : Nat → ClassId} {base : Nat} {sA : Nat → Nat} {r0 : Nat} {x1 : Int32} {h hE : Zh} {rE : Int32} (hf : fX10_borne r0 x1 h = some (rE, hE)) : zCA l yX10_borne cX10_borne 2 (some .int) 7 170 D cA base sA [.ref (base + r0), .int x1] h (some (.int rE)) hE := by
  refine a_entry RX10 (by decide) rfl (Nat.le_of_ble_eq_true rfl) ?_
  intro p e R s m args below meth c hRf hRl r hin X hr
  unfold fX10_borne at hf
  have hf := zlet_n (x := h) rfl hf
  show zGA p l e R s m args below meth c (MQ below (zQA D cA base h hE (some (.int rE))) args s (zNC - zN h) (zNS - zS h) (zA base)) 2 D cA base h 0 [(0, .ref (base + r0)), (1, .int x1)] [] h
  refine a_aload_n X 0 dX10_borne_0 rfl ?_
  refine a_iload_n X 1 dX10_borne_1 rfl ?_
  obtain ⟨hk1, hf⟩ := zite hf
  obtain ⟨v3, h2, hch2, hf⟩ := zc2_e hf
  refine a_callV X r 1 (sX10_noRule hch2) zf10 hk1 ydX10_noRule w_ml_RX10_157 w_instanceMethod_X10_noRule w_sel_X10_noRule w_ini_RX10 w_code_X10_noRule (by rw [hRf, hRl]; decide) rfl (st := []) rfl rfl (Nat.le_of_ble_eq_true rfl) dX10_borne_2 ?_
  refine a_if_eq X 14 dX10_borne_5 (by decide) (fun hq => ?_) (fun hq => ?_)
  · have hf := zpos hq hf
    refine a_aload_n X 0 dX10_borne_14 rfl ?_
    refine a_aload_n X 0 dX10_borne_15 rfl ?_
    obtain ⟨hk4, hf⟩ := zite hf
    obtain ⟨r_5, hr_5, hf⟩ := zbd hf
    refine a_get X zf10 hk4 5 (by decide) w_f_RX10_33 rfl (zfv_r hr_5 rfl) dX10_borne_16 ?_
    refine a_aload_n X 0 dX10_borne_19 rfl ?_
    obtain ⟨r_6, hr_6, hf⟩ := zbd hf
    refine a_get X zf10 hk4 5 (by decide) w_f_RX10_33 rfl (zfv_r hr_6 rfl) dX10_borne_20 ?_
    refine a_iload_n X 1 dX10_borne_23 rfl ?_
    obtain ⟨hk7, hf⟩ := zite hf
    obtain ⟨v9, h8, hch8, hf⟩ := zc2_e hf
    refine a_callVA X r 1 (sX4_laidBy hch8) zf4 hk7 ydX4_laidBy w_ml_RX10_160 w_instanceMethod_X4_laidBy w_sel_X4_laidBy w_ini_RX4 w_code_X4_laidBy (by rw [hRf, hRl]; decide) rfl (st := [.ref (base + r_5), .ref (base + r0)]) rfl rfl (Nat.le_of_ble_eq_true rfl) dX10_borne_24 ?_
    obtain ⟨hk10, hf⟩ := zite hf
    obtain ⟨v12, h11, hch11, hf⟩ := zc2_e hf
    refine a_callV X r 1 (sX4_swapsJudged hch11) zf4 hk10 ydX4_swapsJudged w_ml_RX10_192 w_instanceMethod_X4_swapsJudged w_sel_X4_swapsJudged w_ini_RX4 w_code_X4_swapsJudged (by rw [hRf, hRl]; decide) rfl (st := [.ref (base + r0)]) rfl rfl (Nat.le_of_ble_eq_true rfl) dX10_borne_27 ?_
    obtain ⟨hk13, hf⟩ := zite hf
    refine a_get X zf2 hk13 9 (by decide) w_f_RX10_199 rfl rfl dX10_borne_30 ?_
    obtain ⟨hk14, hf⟩ := zite hf
    obtain ⟨v16, h15, hch15, hf⟩ := zc2_e hf
    refine a_callV X r 1 (sX10_answerWhether hch15) zf10 hk14 ydX10_answerWhether w_ml_RX10_145 w_instanceMethod_X10_answerWhether w_sel_X10_answerWhether w_ini_RX10 w_code_X10_answerWhether (by rw [hRf, hRl]; decide) rfl (st := []) rfl rfl (Nat.le_of_ble_eq_true rfl) dX10_borne_33 ?_
    obtain ⟨rfl, rfl⟩ := zsm hf
    exact a_iret X hr dX10_borne_36
  · have hf := zneg hq hf
    refine a_aload_n X 0 dX10_borne_8 rfl ?_
    refine a_iconst X (v := 1) dX10_borne_9 (by decide) ?_
    obtain ⟨hk17, hf⟩ := zite hf
    obtain ⟨v19, h18, hch18, hf⟩ := zc2_e hf
    refine a_callV X r 1 (sX10_refuse hch18) zf10 hk17 ydX10_refuse w_ml_RX10_56 w_instanceMethod_X10_refuse w_sel_X10_refuse w_ini_RX10 w_code_X10_refuse (by rw [hRf, hRl]; decide) rfl (st := []) rfl rfl (Nat.le_of_ble_eq_true rfl) dX10_borne_10 ?_
    obtain ⟨rfl, rfl⟩ := zsm hf
    exact a_iret X hr dX10_borne_13

set_option maxHeartbeats 4000000 in
set_option maxRecDepth 100000 in
theorem sX10_table {l : Launch} {D : va_G} {cA : Nat → ClassId} {base : Nat} {sA : Nat → Nat} {r0 : Nat} {x1 : Int32} {h hE : Zh} {rE : Int32} (hf : fX10_table r0 x1 h = some (rE, hE)) : zCA l yX10_table cX10_table 2 (some .int) 7 167 D cA base sA [.ref (base + r0), .int x1] h (some (.int rE)) hE := by
  refine a_entry RX10 (by decide) rfl (Nat.le_of_ble_eq_true rfl) ?_
  intro p e R s m args below meth c hRf hRl r hin X hr
  unfold fX10_table at hf
  have hf := zlet_n (x := h) rfl hf
  show zGA p l e R s m args below meth c (MQ below (zQA D cA base h hE (some (.int rE))) args s (zNC - zN h) (zNS - zS h) (zA base)) 2 D cA base h 0 [(0, .ref (base + r0)), (1, .int x1)] [] h
  refine a_aload_n X 0 dX10_table_0 rfl ?_
  refine a_iload_n X 1 dX10_table_1 rfl ?_
  obtain ⟨hk1, hf⟩ := zite hf
  obtain ⟨v3, h2, hch2, hf⟩ := zc2_e hf
  refine a_callV X r 1 (sX10_noHand hch2) zf10 hk1 ydX10_noHand w_ml_RX10_106 w_instanceMethod_X10_noHand w_sel_X10_noHand w_ini_RX10 w_code_X10_noHand (by rw [hRf, hRl]; decide) rfl (st := []) rfl rfl (Nat.le_of_ble_eq_true rfl) dX10_table_2 ?_
  refine a_if_eq X 14 dX10_table_5 (by decide) (fun hq => ?_) (fun hq => ?_)
  · have hf := zpos hq hf
    refine a_aload_n X 0 dX10_table_14 rfl ?_
    obtain ⟨hk4, hf⟩ := zite hf
    obtain ⟨r_5, hr_5, hf⟩ := zbd hf
    refine a_get X zf10 hk4 3 (by decide) w_f_RX10_23 rfl (zfv_r hr_5 rfl) dX10_table_15 ?_
    obtain ⟨hk6, hf⟩ := zite hf
    obtain ⟨r_7, hr_7, hf⟩ := zbd hf
    refine a_get X zf9 hk6 1 (by decide) w_f_RX10_94 rfl (zfv_r hr_7 rfl) dX10_table_18 ?_
    obtain ⟨hk8, hf⟩ := zite hf
    refine a_get X zf0 hk8 9 (by decide) w_f_RX10_98 rfl rfl dX10_table_21 ?_
    refine a_sipush X (v := 300) dX10_table_24 (by decide) ?_
    refine a_icmp_le X 36 dX10_table_27 (by decide) (fun hq => ?_) (fun hq => ?_)
    · have hf := zpos hq hf
      refine a_aload_n X 0 dX10_table_36 rfl ?_
      obtain ⟨r_9, hr_9, hf⟩ := zbd hf
      refine a_get X zf10 hk4 5 (by decide) w_f_RX10_33 rfl (zfv_r hr_9 rfl) dX10_table_37 ?_
      obtain ⟨hk10, hf⟩ := zite hf
      obtain ⟨h11, hch11, hf⟩ := zbd hf
      refine a_callVA X r 0 (sX4_readyTable hch11) zf4 hk10 ydX4_readyTable w_ml_RX10_221 w_instanceMethod_X4_readyTable w_sel_X4_readyTable w_ini_RX4 w_code_X4_readyTable (by rw [hRf, hRl]; decide) rfl (st := []) rfl rfl (Nat.le_of_ble_eq_true rfl) dX10_table_40 ?_
      refine a_aload_n X 0 dX10_table_43 rfl ?_
      refine a_aload_n X 0 dX10_table_44 rfl ?_
      obtain ⟨hk12, hf⟩ := zite hf
      obtain ⟨r_13, hr_13, hf⟩ := zbd hf
      refine a_get X zf10 hk12 5 (by decide) w_f_RX10_33 rfl (zfv_r hr_13 rfl) dX10_table_45 ?_
      refine a_iload_n X 1 dX10_table_48 rfl ?_
      obtain ⟨hk14, hf⟩ := zite hf
      obtain ⟨v16, h15, hch15, hf⟩ := zc2_e hf
      refine a_callV X r 1 (sX4_tableRow hch15) zf4 hk14 ydX4_tableRow w_ml_RX10_224 w_instanceMethod_X4_tableRow w_sel_X4_tableRow w_ini_RX4 w_code_X4_tableRow (by rw [hRf, hRl]; decide) rfl (st := [.ref (base + r0)]) rfl rfl (Nat.le_of_ble_eq_true rfl) dX10_table_49 ?_
      obtain ⟨hk17, hf⟩ := zite hf
      obtain ⟨v19, h18, hch18, hf⟩ := zc2_e hf
      refine a_callV X r 1 (sX10_answer hch18) zf10 hk17 ydX10_answer w_ml_RX10_84 w_instanceMethod_X10_answer w_sel_X10_answer w_ini_RX10 w_code_X10_answer (by rw [hRf, hRl]; decide) rfl (st := []) rfl rfl (Nat.le_of_ble_eq_true rfl) dX10_table_52 ?_
      obtain ⟨rfl, rfl⟩ := zsm hf
      exact a_iret X hr dX10_table_55
    · have hf := zneg hq hf
      refine a_aload_n X 0 dX10_table_30 rfl ?_
      refine a_iconst X (v := 3) dX10_table_31 (by decide) ?_
      obtain ⟨v21, h20, hch20, hf⟩ := zc2_e hf
      refine a_callV X r 1 (sX10_refuse hch20) zf10 hk4 ydX10_refuse w_ml_RX10_56 w_instanceMethod_X10_refuse w_sel_X10_refuse w_ini_RX10 w_code_X10_refuse (by rw [hRf, hRl]; decide) rfl (st := []) rfl rfl (Nat.le_of_ble_eq_true rfl) dX10_table_32 ?_
      obtain ⟨rfl, rfl⟩ := zsm hf
      exact a_iret X hr dX10_table_35
  · have hf := zneg hq hf
    refine a_aload_n X 0 dX10_table_8 rfl ?_
    refine a_iconst X (v := 1) dX10_table_9 (by decide) ?_
    obtain ⟨hk22, hf⟩ := zite hf
    obtain ⟨v24, h23, hch23, hf⟩ := zc2_e hf
    refine a_callV X r 1 (sX10_refuse hch23) zf10 hk22 ydX10_refuse w_ml_RX10_56 w_instanceMethod_X10_refuse w_sel_X10_refuse w_ini_RX10 w_code_X10_refuse (by rw [hRf, hRl]; decide) rfl (st := []) rfl rfl (Nat.le_of_ble_eq_true rfl) dX10_table_10 ?_
    obtain ⟨rfl, rfl⟩ := zsm hf
    exact a_iret X hr dX10_table_13

set_option maxHeartbeats 4000000 in
set_option maxRecDepth 100000 in
theorem sX10_agrees {l : Launch} {D : va_G} {cA : Nat → ClassId} {base : Nat} {sA : Nat → Nat} {r0 : Nat} {x1 : Int32} {h hE : Zh} {rE : Int32} (hf : fX10_agrees r0 x1 h = some (rE, hE)) : zCA l yX10_agrees cX10_agrees 5 (some .int) 7 170 D cA base sA [.ref (base + r0), .int x1] h (some (.int rE)) hE := by
  refine a_entry RX10 (by decide) rfl (Nat.le_of_ble_eq_true rfl) ?_
  intro p e R s m args below meth c hRf hRl r hin X hr
  unfold fX10_agrees at hf
  have hf := zlet_n (x := h) rfl hf
  show zGA p l e R s m args below meth c (MQ below (zQA D cA base h hE (some (.int rE))) args s (zNC - zN h) (zNS - zS h) (zA base)) 5 D cA base h 0 [(0, .ref (base + r0)), (1, .int x1)] [] h
  refine a_aload_n X 0 dX10_agrees_0 rfl ?_
  refine a_iload_n X 1 dX10_agrees_1 rfl ?_
  obtain ⟨hk1, hf⟩ := zite hf
  obtain ⟨v3, h2, hch2, hf⟩ := zc2_e hf
  refine a_callV X r 1 (sX10_noRule hch2) zf10 hk1 ydX10_noRule w_ml_RX10_157 w_instanceMethod_X10_noRule w_sel_X10_noRule w_ini_RX10 w_code_X10_noRule (by rw [hRf, hRl]; decide) rfl (st := []) rfl rfl (Nat.le_of_ble_eq_true rfl) dX10_agrees_2 ?_
  refine a_if_eq X 14 dX10_agrees_5 (by decide) (fun hq => ?_) (fun hq => ?_)
  · have hf := zpos hq hf
    refine a_aload_n X 0 dX10_agrees_14 rfl ?_
    obtain ⟨hk4, hf⟩ := zite hf
    obtain ⟨r_5, hr_5, hf⟩ := zbd hf
    refine a_get X zf10 hk4 5 (by decide) w_f_RX10_33 rfl (zfv_r hr_5 rfl) dX10_agrees_15 ?_
    refine a_iload_n X 1 dX10_agrees_18 rfl ?_
    obtain ⟨hk6, hf⟩ := zite hf
    obtain ⟨v8, h7, hch7, hf⟩ := zc2_e hf
    refine a_callVA X r 1 (sX4_laidBy hch7) zf4 hk6 ydX4_laidBy w_ml_RX10_160 w_instanceMethod_X4_laidBy w_sel_X4_laidBy w_ini_RX4 w_code_X4_laidBy (by rw [hRf, hRl]; decide) rfl (st := []) rfl rfl (Nat.le_of_ble_eq_true rfl) dX10_agrees_19 ?_
    obtain ⟨hk9, hf⟩ := zite hf
    obtain ⟨r_10, hr_10, hf⟩ := zbd hf
    refine a_get X zf2 hk9 1 (by decide) w_f_RX10_164 rfl (zfv_r hr_10 rfl) dX10_agrees_22 ?_
    refine a_astore_n X [(2, .ref (base + r_10)), (0, .ref (base + r0)), (1, .int x1)] dX10_agrees_25 (by decide) rfl ?_
    refine a_iconst X (v := 0) dX10_agrees_26 (by decide) ?_
    refine a_istore_n X [(3, .int ((0 : Int32))), (2, .ref (base + r_10)), (0, .ref (base + r0)), (1, .int x1)] dX10_agrees_27 (by decide) rfl ?_
    refine a_iconst X (v := 0) dX10_agrees_28 (by decide) ?_
    refine a_istore X [(4, .int ((0 : Int32))), (3, .int ((0 : Int32))), (2, .ref (base + r_10)), (0, .ref (base + r0)), (1, .int x1)] dX10_agrees_29 (by decide) rfl ?_
    refine a_sub [3, 2, 1, 0] rfl ?_
    obtain ⟨qq, hlp, hf⟩ := zbd hf
    refine lp_snd (body := (fun q : Int32 × Int32 × Zh => bX10_agrees_31 h r0 r_10 q.1 q.2.1 q.2.2)) (P := (fun q : Int32 × Int32 × Zh => zGA p l e R s m args below meth c (MQ below (zQA D cA base h hE (some (.int rE))) args s (zNC - zN h) (zNS - zS h) (zA base)) 5 D cA base h 31 [(0, .ref (base + r0)), (2, .ref (base + r_10)), (3, .int q.1), (4, .int q.2.1)] [] q.2.2)) (E := (fun (en : Nat) (q : Int32 × Int32 × Zh) => zGA p l e R s m args below meth c (MQ below (zQA D cA base h hE (some (.int rE))) args s (zNC - zN h) (zNS - zS h) (zA base)) 5 D cA base h 65 [(0, .ref (base + r0)), (3, .int q.1)] [] q.2.2)) ?_ zB ((0 : Int32), ((0 : Int32), h7)) qq.1 qq.2 hlp ?_
    · intro q e_31 q_31 hf hc0 hc1
      obtain ⟨x3_31, x4_31, h_31⟩ := q
      have hf : bX10_agrees_31 h r0 r_10 x3_31 x4_31 h_31 = some (e_31, q_31) := hf
      unfold bX10_agrees_31 at hf
      show zGA p l e R s m args below meth c (MQ below (zQA D cA base h hE (some (.int rE))) args s (zNC - zN h) (zNS - zS h) (zA base)) 5 D cA base h 31 [(0, .ref (base + r0)), (2, .ref (base + r_10)), (3, .int x3_31), (4, .int x4_31)] [] h_31
      refine a_iload X 3 dX10_agrees_31 rfl ?_
      refine a_aload_n X 0 dX10_agrees_33 rfl ?_
      obtain ⟨hk11, hf⟩ := zite hf
      obtain ⟨r_12, hr_12, hf⟩ := zbd hf
      refine a_get X zf10 hk11 3 (by decide) w_f_RX10_23 rfl (zfv_r hr_12 rfl) dX10_agrees_34 ?_
      obtain ⟨hk13, hf⟩ := zite hf
      obtain ⟨r_14, hr_14, hf⟩ := zbd hf
      refine a_get X zf9 hk13 4 (by decide) w_f_RX10_233 rfl (zfv_r hr_14 rfl) dX10_agrees_37 ?_
      obtain ⟨hk15, hf⟩ := zite hf
      refine a_get X zf1 hk15 2 (by decide) w_f_RX10_239 rfl rfl dX10_agrees_40 ?_
      refine a_icmp_ge X 65 dX10_agrees_43 (by decide) (fun hq => ?_) (fun hq => ?_)
      · have hf := zpos hq hf
        cases hf
        have hc1 := hc1 (by decide)
        exact a_sub [0, 2] rfl hc1
      · have hf := zneg hq hf
        refine a_aload_n X 0 dX10_agrees_46 rfl ?_
        refine a_aload_n X 1 dX10_agrees_47 rfl ?_
        refine a_iload X 3 dX10_agrees_48 rfl ?_
        obtain ⟨v17, h16, hch16, hf⟩ := zc2_e hf
        refine a_callV X r 2 (sX10_isAgreed hch16) zf10 hk11 ydX10_isAgreed w_ml_RX10_242 w_instanceMethod_X10_isAgreed w_sel_X10_isAgreed w_ini_RX10 w_code_X10_isAgreed (by rw [hRf, hRl]; decide) rfl (st := []) rfl rfl (Nat.le_of_ble_eq_true rfl) dX10_agrees_50 ?_
        refine a_if_eq X 59 dX10_agrees_53 (by decide) (fun hq => ?_) (fun hq => ?_)
        · have hf := zpos hq hf
          obtain ⟨y18, ey18⟩ : ∃ y : Int32, y = x4_31 + (1 : Int32) := ⟨_, rfl⟩
          have hf := zlet_n ey18 hf
          refine a_iinc X (j := 3) [(4, .int y18), (0, .ref (base + r0)), (2, .ref (base + r_10)), (3, .int x3_31)] dX10_agrees_59 rfl (by rw [ey18]; rfl) (by decide) rfl ?_
          refine a_goto X 31 dX10_agrees_62 (by decide) ?_
          cases hf
          exact a_sub [1, 2, 3, 0] rfl (hc0 rfl)
        · have hf := zneg hq hf
          obtain ⟨y19, ey19⟩ : ∃ y : Int32, y = x3_31 + (1 : Int32) := ⟨_, rfl⟩
          have hf := zlet_n ey19 hf
          refine a_iinc X (j := 2) [(3, .int y19), (0, .ref (base + r0)), (2, .ref (base + r_10)), (4, .int x4_31)] dX10_agrees_56 rfl (by rw [ey19]; rfl) (by decide) rfl ?_
          obtain ⟨y20, ey20⟩ : ∃ y : Int32, y = x4_31 + (1 : Int32) := ⟨_, rfl⟩
          have hf := zlet_n ey20 hf
          refine a_iinc X (j := 3) [(4, .int y20), (3, .int y19), (0, .ref (base + r0)), (2, .ref (base + r_10))] dX10_agrees_59 rfl (by rw [ey20]; rfl) (by decide) rfl ?_
          refine a_goto X 31 dX10_agrees_62 (by decide) ?_
          cases hf
          exact a_sub [2, 3, 1, 0] rfl (hc0 rfl)
    · obtain ⟨ee, x3_k31, x4_k31, h_k31⟩ := qq
      have hf : kX10_agrees_31 h r0 ee x3_k31 x4_k31 h_k31 = some (rE, hE) := hf
      unfold kX10_agrees_31 at hf
      show zGA p l e R s m args below meth c (MQ below (zQA D cA base h hE (some (.int rE))) args s (zNC - zN h) (zNS - zS h) (zA base)) 5 D cA base h 65 [(0, .ref (base + r0)), (3, .int x3_k31)] [] h_k31
      refine a_aload_n X 0 dX10_agrees_65 rfl ?_
      refine a_iload_n X 1 dX10_agrees_66 rfl ?_
      obtain ⟨hk21, hf⟩ := zite hf
      obtain ⟨v23, h22, hch22, hf⟩ := zc2_e hf
      refine a_callV X r 1 (sX10_answer hch22) zf10 hk21 ydX10_answer w_ml_RX10_84 w_instanceMethod_X10_answer w_sel_X10_answer w_ini_RX10 w_code_X10_answer (by rw [hRf, hRl]; decide) rfl (st := []) rfl rfl (Nat.le_of_ble_eq_true rfl) dX10_agrees_67 ?_
      obtain ⟨rfl, rfl⟩ := zsm hf
      exact a_iret X hr dX10_agrees_70
  · have hf := zneg hq hf
    refine a_aload_n X 0 dX10_agrees_8 rfl ?_
    refine a_iconst X (v := 1) dX10_agrees_9 (by decide) ?_
    obtain ⟨hk24, hf⟩ := zite hf
    obtain ⟨v26, h25, hch25, hf⟩ := zc2_e hf
    refine a_callV X r 1 (sX10_refuse hch25) zf10 hk24 ydX10_refuse w_ml_RX10_56 w_instanceMethod_X10_refuse w_sel_X10_refuse w_ini_RX10 w_code_X10_refuse (by rw [hRf, hRl]; decide) rfl (st := []) rfl rfl (Nat.le_of_ble_eq_true rfl) dX10_agrees_10 ?_
    obtain ⟨rfl, rfl⟩ := zsm hf
    exact a_iret X hr dX10_agrees_13

set_option maxHeartbeats 4000000 in
set_option maxRecDepth 100000 in
theorem sX10_wrong {l : Launch} {D : va_G} {cA : Nat → ClassId} {base : Nat} {sA : Nat → Nat} {r0 : Nat} {x1 : Int32} {h hE : Zh} {rE : Int32} (hf : fX10_wrong r0 x1 h = some (rE, hE)) : zCA l yX10_wrong cX10_wrong 2 (some .int) 7 170 D cA base sA [.ref (base + r0), .int x1] h (some (.int rE)) hE := by
  refine a_entry RX10 (by decide) rfl (Nat.le_of_ble_eq_true rfl) ?_
  intro p e R s m args below meth c hRf hRl r hin X hr
  unfold fX10_wrong at hf
  have hf := zlet_n (x := h) rfl hf
  show zGA p l e R s m args below meth c (MQ below (zQA D cA base h hE (some (.int rE))) args s (zNC - zN h) (zNS - zS h) (zA base)) 2 D cA base h 0 [(0, .ref (base + r0)), (1, .int x1)] [] h
  refine a_aload_n X 0 dX10_wrong_0 rfl ?_
  refine a_iload_n X 1 dX10_wrong_1 rfl ?_
  obtain ⟨hk1, hf⟩ := zite hf
  obtain ⟨v3, h2, hch2, hf⟩ := zc2_e hf
  refine a_callV X r 1 (sX10_noRule hch2) zf10 hk1 ydX10_noRule w_ml_RX10_157 w_instanceMethod_X10_noRule w_sel_X10_noRule w_ini_RX10 w_code_X10_noRule (by rw [hRf, hRl]; decide) rfl (st := []) rfl rfl (Nat.le_of_ble_eq_true rfl) dX10_wrong_2 ?_
  refine a_if_eq X 14 dX10_wrong_5 (by decide) (fun hq => ?_) (fun hq => ?_)
  · have hf := zpos hq hf
    refine a_aload_n X 0 dX10_wrong_14 rfl ?_
    refine a_aload_n X 0 dX10_wrong_15 rfl ?_
    refine a_aload_n X 0 dX10_wrong_16 rfl ?_
    obtain ⟨hk4, hf⟩ := zite hf
    obtain ⟨r_5, hr_5, hf⟩ := zbd hf
    refine a_get X zf10 hk4 5 (by decide) w_f_RX10_33 rfl (zfv_r hr_5 rfl) dX10_wrong_17 ?_
    refine a_iload_n X 1 dX10_wrong_20 rfl ?_
    obtain ⟨hk6, hf⟩ := zite hf
    obtain ⟨v8, h7, hch7, hf⟩ := zc2_e hf
    refine a_callVA X r 1 (sX4_laidBy hch7) zf4 hk6 ydX4_laidBy w_ml_RX10_160 w_instanceMethod_X4_laidBy w_sel_X4_laidBy w_ini_RX4 w_code_X4_laidBy (by rw [hRf, hRl]; decide) rfl (st := [.ref (base + r0), .ref (base + r0)]) rfl rfl (Nat.le_of_ble_eq_true rfl) dX10_wrong_21 ?_
    obtain ⟨hk9, hf⟩ := zite hf
    obtain ⟨r_10, hr_10, hf⟩ := zbd hf
    refine a_get X zf2 hk9 1 (by decide) w_f_RX10_164 rfl (zfv_r hr_10 rfl) dX10_wrong_24 ?_
    obtain ⟨hk11, hf⟩ := zite hf
    obtain ⟨v13, h12, hch12, hf⟩ := zc2_e hf
    refine a_callV X r 1 (sX10_firstWrong hch12) zf10 hk11 ydX10_firstWrong w_ml_RX10_245 w_instanceMethod_X10_firstWrong w_sel_X10_firstWrong w_ini_RX10 w_code_X10_firstWrong (by rw [hRf, hRl]; decide) rfl (st := [.ref (base + r0)]) rfl rfl (Nat.le_of_ble_eq_true rfl) dX10_wrong_27 ?_
    obtain ⟨hk14, hf⟩ := zite hf
    obtain ⟨v16, h15, hch15, hf⟩ := zc2_e hf
    refine a_callV X r 1 (sX10_answer hch15) zf10 hk14 ydX10_answer w_ml_RX10_84 w_instanceMethod_X10_answer w_sel_X10_answer w_ini_RX10 w_code_X10_answer (by rw [hRf, hRl]; decide) rfl (st := []) rfl rfl (Nat.le_of_ble_eq_true rfl) dX10_wrong_30 ?_
    obtain ⟨rfl, rfl⟩ := zsm hf
    exact a_iret X hr dX10_wrong_33
  · have hf := zneg hq hf
    refine a_aload_n X 0 dX10_wrong_8 rfl ?_
    refine a_iconst X (v := 1) dX10_wrong_9 (by decide) ?_
    obtain ⟨hk17, hf⟩ := zite hf
    obtain ⟨v19, h18, hch18, hf⟩ := zc2_e hf
    refine a_callV X r 1 (sX10_refuse hch18) zf10 hk17 ydX10_refuse w_ml_RX10_56 w_instanceMethod_X10_refuse w_sel_X10_refuse w_ini_RX10 w_code_X10_refuse (by rw [hRf, hRl]; decide) rfl (st := []) rfl rfl (Nat.le_of_ble_eq_true rfl) dX10_wrong_10 ?_
    obtain ⟨rfl, rfl⟩ := zsm hf
    exact a_iret X hr dX10_wrong_13

