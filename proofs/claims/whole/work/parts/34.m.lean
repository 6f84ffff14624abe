/-! FifthCardModel readEvening -/
def jX12_readEvening_117 (g : Zh) (r0 : Nat) (t0 : Int32) (h : Zh) : Option Zh :=
  if (zI h r0 9) = ((5 : Int32)) then some h else (zR h r0 4).bind fun r_27 => if zK g r_27 = 11 then (zR h r_27 13).bind fun r_29 => (zR h r0 4).bind fun r_30 => if zK g r_30 = 11 then if zK g r_29 = 100 then if zin (zI h r_30 6) (zL g r_29) then zlet (zsI h r_29 (zI h r_30 6).toNatClampNeg t0) fun h34 => (zR h34 r0 4).bind fun r_35 => if zK g r_35 = 11 then zlet (zsI h34 r_35 6 ((zI h34 r_35 6) + ((1 : Int32)))) fun h37 => some h37 else none else none else none else none else none
def jX12_readEvening_116 (g : Zh) (r0 : Nat) (h : Zh) : Option Zh :=
  jX12_readEvening_117 g r0 ((0 : Int32)) h
def fX12_readEvening (r0 : Nat) (h : Zh) : Option Zh := zlet h fun g =>
  if zK g r0 = 12 then (zR h r0 4).bind fun r_2 => if zK g r_2 = 11 then (fX12_begins r0 (zI h r_2 6) ((9 : Int32)) h).bind fun h4 => if (zI h4 r0 9) = ((5 : Int32)) then some h4 else (zR h4 r0 4).bind fun r_5 => if zK g r_5 = 11 then zlet (((5 : Int32)) * (zI h4 r_5 6)) fun y7 => (zR h4 r0 4).bind fun r_8 => if zK g r_8 = 11 then (zR h4 r_8 11).bind fun r_10 => (zR h4 r0 4).bind fun r_11 => if zK g r_11 = 11 then (zR h4 r0 4).bind fun r_13 => if zK g r_13 = 11 then (fX12_readUnlike r0 r_10 y7 (zI h4 r_11 2) (zI h4 r_13 0) h4).bind fun h15 => (fX12_needs r0 11 h15).bind fun h16 => (zR h16 r0 4).bind fun r_17 => if zK g r_17 = 11 then (zR h16 r_17 12).bind fun r_19 => (zR h16 r0 4).bind fun r_20 => if zK g r_20 = 11 then (zR h16 r0 4).bind fun r_22 => if zK g r_22 = 11 then (fX12_readUnlike r0 r_19 y7 (zI h16 r_20 4) (zI h16 r_22 0) h16).bind fun h24 => (zR h24 r0 4).bind fun r_25 => if zK g r_25 = 11 then if (zI h24 r_25 9) = 0 then jX12_readEvening_116 g r0 h24 else zc2 (fX12_eatsWord r0 12 h24) fun v39 h38 => if v39 = 0 then jX12_readEvening_116 g r0 h38 else zc2 (fX12_readPlaces r0 h38) fun v41 h40 => jX12_readEvening_117 g r0 v41 h40 else none else none else none else none else none else none else none else none else none else none
/-! FifthCardModel readLine -/
def fX12_readLine (r0 : Nat) (h : Zh) : Option Zh := zlet h fun g =>
  if zK g r0 = 12 then zc2 (fX12_isWord r0 0 h) fun v3 h2 => if v3 = 0 then zc2 (fX12_isWord r0 9 h2) fun v5 h4 => if v5 = 0 then zc2 (fX12_isWord r0 10 h4) fun v7 h6 => if v7 = 0 then (fX12_flaw r0 ((1 : Int32)) h6).bind fun h8 => some h8 else (fX12_readEvening r0 h6).bind fun h9 => some h9 else (fX12_readRule r0 h4).bind fun h10 => some h10 else (fX12_readTrick r0 h2).bind fun h11 => some h11 else none
/-! FifthCardModel readAll -/
def bX12_readAll_2 (g : Zh) (r0 : Nat) (x1 : Int32) (h : Zh) : Option (Nat × Int32 × Zh) :=
  if x1 = 0 then some (1, (x1, h)) else if zK g r0 = 12 then (fX12_readLine r0 h).bind fun h2 => zc2 (fX12_eatsSign r0 ((59 : Int32)) h2) fun v4 h3 => some (0, (v4, h3)) else none
def kX12_readAll_2 (g : Zh) (r0 : Nat) (e : Nat) (x1 : Int32) (h : Zh) : Option Zh :=
  if zK g r0 = 12 then if (zI h r0 9) = ((1 : Int32)) then some h else (fX12_flaw r0 ((1 : Int32)) h).bind fun h6 => some h6 else none
def fX12_readAll (r0 : Nat) (h : Zh) : Option Zh := zlet h fun g =>
  (lp (fun q : Int32 × Zh => bX12_readAll_2 g r0 q.1 q.2) zB ((1 : Int32), h)).bind fun q => kX12_readAll_2 g r0 q.1 q.2.1 q.2.2
theorem dX12_readEvening_0 : decode cX12_readEvening 0 = .ok (.aload_n 0, 1) := by decide +kernel
theorem dX12_readEvening_1 : decode cX12_readEvening 1 = .ok (.aload_n 0, 1) := by decide +kernel
theorem dX12_readEvening_2 : decode cX12_readEvening 2 = .ok (.getfield 190, 3) := by decide +kernel
theorem dX12_readEvening_5 : decode cX12_readEvening 5 = .ok (.getfield 305, 3) := by decide +kernel
theorem dX12_readEvening_8 : decode cX12_readEvening 8 = .ok (.bipush 9, 2) := by decide +kernel
theorem dX12_readEvening_10 : decode cX12_readEvening 10 = .ok (.invokevirtual 262, 3) := by decide +kernel
theorem dX12_readEvening_13 : decode cX12_readEvening 13 = .ok (.aload_n 0, 1) := by decide +kernel
theorem dX12_readEvening_14 : decode cX12_readEvening 14 = .ok (.getfield 118, 3) := by decide +kernel
theorem dX12_readEvening_17 : decode cX12_readEvening 17 = .ok (.iconst 5, 1) := by decide +kernel
theorem dX12_readEvening_18 : decode cX12_readEvening 18 = .ok (.if_icmp .ne 4, 3) := by decide +kernel
theorem dX12_readEvening_21 : decode cX12_readEvening 21 = .ok (.return_, 1) := by decide +kernel
theorem dX12_readEvening_22 : decode cX12_readEvening 22 = .ok (.iconst 5, 1) := by decide +kernel
theorem dX12_readEvening_23 : decode cX12_readEvening 23 = .ok (.aload_n 0, 1) := by decide +kernel
theorem dX12_readEvening_24 : decode cX12_readEvening 24 = .ok (.getfield 190, 3) := by decide +kernel
theorem dX12_readEvening_27 : decode cX12_readEvening 27 = .ok (.getfield 305, 3) := by decide +kernel
theorem dX12_readEvening_30 : decode cX12_readEvening 30 = .ok (.imul, 1) := by decide +kernel
theorem dX12_readEvening_31 : decode cX12_readEvening 31 = .ok (.istore_n 1, 1) := by decide +kernel
theorem dX12_readEvening_32 : decode cX12_readEvening 32 = .ok (.aload_n 0, 1) := by decide +kernel
theorem dX12_readEvening_33 : decode cX12_readEvening 33 = .ok (.aload_n 0, 1) := by decide +kernel
theorem dX12_readEvening_34 : decode cX12_readEvening 34 = .ok (.getfield 190, 3) := by decide +kernel
theorem dX12_readEvening_37 : decode cX12_readEvening 37 = .ok (.getfield 308, 3) := by decide +kernel
theorem dX12_readEvening_40 : decode cX12_readEvening 40 = .ok (.iload_n 1, 1) := by decide +kernel
theorem dX12_readEvening_41 : decode cX12_readEvening 41 = .ok (.aload_n 0, 1) := by decide +kernel
theorem dX12_readEvening_42 : decode cX12_readEvening 42 = .ok (.getfield 190, 3) := by decide +kernel
theorem dX12_readEvening_45 : decode cX12_readEvening 45 = .ok (.getfield 232, 3) := by decide +kernel
theorem dX12_readEvening_48 : decode cX12_readEvening 48 = .ok (.aload_n 0, 1) := by decide +kernel
theorem dX12_readEvening_49 : decode cX12_readEvening 49 = .ok (.getfield 190, 3) := by decide +kernel
theorem dX12_readEvening_52 : decode cX12_readEvening 52 = .ok (.getfield 194, 3) := by decide +kernel
theorem dX12_readEvening_55 : decode cX12_readEvening 55 = .ok (.invokevirtual 311, 3) := by decide +kernel
theorem dX12_readEvening_58 : decode cX12_readEvening 58 = .ok (.aload_n 0, 1) := by decide +kernel
theorem dX12_readEvening_59 : decode cX12_readEvening 59 = .ok (.ldc 186, 2) := by decide +kernel
theorem dX12_readEvening_61 : decode cX12_readEvening 61 = .ok (.invokevirtual 172, 3) := by decide +kernel
theorem dX12_readEvening_64 : decode cX12_readEvening 64 = .ok (.aload_n 0, 1) := by decide +kernel
theorem dX12_readEvening_65 : decode cX12_readEvening 65 = .ok (.aload_n 0, 1) := by decide +kernel
theorem dX12_readEvening_66 : decode cX12_readEvening 66 = .ok (.getfield 190, 3) := by decide +kernel
theorem dX12_readEvening_69 : decode cX12_readEvening 69 = .ok (.getfield 315, 3) := by decide +kernel
theorem dX12_readEvening_72 : decode cX12_readEvening 72 = .ok (.iload_n 1, 1) := by decide +kernel
theorem dX12_readEvening_73 : decode cX12_readEvening 73 = .ok (.aload_n 0, 1) := by decide +kernel
theorem dX12_readEvening_74 : decode cX12_readEvening 74 = .ok (.getfield 190, 3) := by decide +kernel
theorem dX12_readEvening_77 : decode cX12_readEvening 77 = .ok (.getfield 257, 3) := by decide +kernel
theorem dX12_readEvening_80 : decode cX12_readEvening 80 = .ok (.aload_n 0, 1) := by decide +kernel
theorem dX12_readEvening_81 : decode cX12_readEvening 81 = .ok (.getfield 190, 3) := by decide +kernel
theorem dX12_readEvening_84 : decode cX12_readEvening 84 = .ok (.getfield 194, 3) := by decide +kernel
theorem dX12_readEvening_87 : decode cX12_readEvening 87 = .ok (.invokevirtual 311, 3) := by decide +kernel
theorem dX12_readEvening_90 : decode cX12_readEvening 90 = .ok (.aload_n 0, 1) := by decide +kernel
theorem dX12_readEvening_91 : decode cX12_readEvening 91 = .ok (.getfield 190, 3) := by decide +kernel
theorem dX12_readEvening_94 : decode cX12_readEvening 94 = .ok (.getfield 250, 3) := by decide +kernel
theorem dX12_readEvening_97 : decode cX12_readEvening 97 = .ok (.ifCond .eq 19, 3) := by decide +kernel
theorem dX12_readEvening_100 : decode cX12_readEvening 100 = .ok (.aload_n 0, 1) := by decide +kernel
theorem dX12_readEvening_101 : decode cX12_readEvening 101 = .ok (.ldc 188, 2) := by decide +kernel
theorem dX12_readEvening_103 : decode cX12_readEvening 103 = .ok (.invokevirtual 242, 3) := by decide +kernel
theorem dX12_readEvening_106 : decode cX12_readEvening 106 = .ok (.ifCond .eq 10, 3) := by decide +kernel
theorem dX12_readEvening_109 : decode cX12_readEvening 109 = .ok (.aload_n 0, 1) := by decide +kernel
theorem dX12_readEvening_110 : decode cX12_readEvening 110 = .ok (.invokevirtual 316, 3) := by decide +kernel
theorem dX12_readEvening_113 : decode cX12_readEvening 113 = .ok (.goto 4, 3) := by decide +kernel
theorem dX12_readEvening_116 : decode cX12_readEvening 116 = .ok (.iconst 0, 1) := by decide +kernel
theorem dX12_readEvening_117 : decode cX12_readEvening 117 = .ok (.istore_n 2, 1) := by decide +kernel
theorem dX12_readEvening_118 : decode cX12_readEvening 118 = .ok (.aload_n 0, 1) := by decide +kernel
theorem dX12_readEvening_119 : decode cX12_readEvening 119 = .ok (.getfield 118, 3) := by decide +kernel
theorem dX12_readEvening_122 : decode cX12_readEvening 122 = .ok (.iconst 5, 1) := by decide +kernel
theorem dX12_readEvening_123 : decode cX12_readEvening 123 = .ok (.if_icmp .ne 4, 3) := by decide +kernel
theorem dX12_readEvening_126 : decode cX12_readEvening 126 = .ok (.return_, 1) := by decide +kernel
theorem dX12_readEvening_127 : decode cX12_readEvening 127 = .ok (.aload_n 0, 1) := by decide +kernel
theorem dX12_readEvening_128 : decode cX12_readEvening 128 = .ok (.getfield 190, 3) := by decide +kernel
theorem dX12_readEvening_131 : decode cX12_readEvening 131 = .ok (.getfield 319, 3) := by decide +kernel
theorem dX12_readEvening_134 : decode cX12_readEvening 134 = .ok (.aload_n 0, 1) := by decide +kernel
theorem dX12_readEvening_135 : decode cX12_readEvening 135 = .ok (.getfield 190, 3) := by decide +kernel
theorem dX12_readEvening_138 : decode cX12_readEvening 138 = .ok (.getfield 305, 3) := by decide +kernel
theorem dX12_readEvening_141 : decode cX12_readEvening 141 = .ok (.iload_n 2, 1) := by decide +kernel
theorem dX12_readEvening_142 : decode cX12_readEvening 142 = .ok (.iastore, 1) := by decide +kernel
theorem dX12_readEvening_143 : decode cX12_readEvening 143 = .ok (.aload_n 0, 1) := by decide +kernel
theorem dX12_readEvening_144 : decode cX12_readEvening 144 = .ok (.getfield 190, 3) := by decide +kernel
theorem dX12_readEvening_147 : decode cX12_readEvening 147 = .ok (.dup, 1) := by decide +kernel
theorem dX12_readEvening_148 : decode cX12_readEvening 148 = .ok (.getfield 305, 3) := by decide +kernel
theorem dX12_readEvening_151 : decode cX12_readEvening 151 = .ok (.iconst 1, 1) := by decide +kernel
theorem dX12_readEvening_152 : decode cX12_readEvening 152 = .ok (.iadd, 1) := by decide +kernel
theorem dX12_readEvening_153 : decode cX12_readEvening 153 = .ok (.putfield 305, 3) := by decide +kernel
theorem dX12_readEvening_156 : decode cX12_readEvening 156 = .ok (.return_, 1) := by decide +kernel
theorem dX12_readLine_0 : decode cX12_readLine 0 = .ok (.aload_n 0, 1) := by decide +kernel
theorem dX12_readLine_1 : decode cX12_readLine 1 = .ok (.ldc 180, 2) := by decide +kernel
theorem dX12_readLine_3 : decode cX12_readLine 3 = .ok (.invokevirtual 157, 3) := by decide +kernel
theorem dX12_readLine_6 : decode cX12_readLine 6 = .ok (.ifCond .eq 10, 3) := by decide +kernel
theorem dX12_readLine_9 : decode cX12_readLine 9 = .ok (.aload_n 0, 1) := by decide +kernel
theorem dX12_readLine_10 : decode cX12_readLine 10 = .ok (.invokevirtual 204, 3) := by decide +kernel
theorem dX12_readLine_13 : decode cX12_readLine 13 = .ok (.goto 40, 3) := by decide +kernel
theorem dX12_readLine_16 : decode cX12_readLine 16 = .ok (.aload_n 0, 1) := by decide +kernel
theorem dX12_readLine_17 : decode cX12_readLine 17 = .ok (.ldc 182, 2) := by decide +kernel
theorem dX12_readLine_19 : decode cX12_readLine 19 = .ok (.invokevirtual 157, 3) := by decide +kernel
theorem dX12_readLine_22 : decode cX12_readLine 22 = .ok (.ifCond .eq 10, 3) := by decide +kernel
theorem dX12_readLine_25 : decode cX12_readLine 25 = .ok (.aload_n 0, 1) := by decide +kernel
theorem dX12_readLine_26 : decode cX12_readLine 26 = .ok (.invokevirtual 207, 3) := by decide +kernel
theorem dX12_readLine_29 : decode cX12_readLine 29 = .ok (.goto 24, 3) := by decide +kernel
theorem dX12_readLine_32 : decode cX12_readLine 32 = .ok (.aload_n 0, 1) := by decide +kernel
theorem dX12_readLine_33 : decode cX12_readLine 33 = .ok (.ldc 184, 2) := by decide +kernel
theorem dX12_readLine_35 : decode cX12_readLine 35 = .ok (.invokevirtual 157, 3) := by decide +kernel
theorem dX12_readLine_38 : decode cX12_readLine 38 = .ok (.ifCond .eq 10, 3) := by decide +kernel
theorem dX12_readLine_41 : decode cX12_readLine 41 = .ok (.aload_n 0, 1) := by decide +kernel
theorem dX12_readLine_42 : decode cX12_readLine 42 = .ok (.invokevirtual 210, 3) := by decide +kernel
theorem dX12_readLine_45 : decode cX12_readLine 45 = .ok (.goto 8, 3) := by decide +kernel
theorem dX12_readLine_48 : decode cX12_readLine 48 = .ok (.aload_n 0, 1) := by decide +kernel
theorem dX12_readLine_49 : decode cX12_readLine 49 = .ok (.iconst 1, 1) := by decide +kernel
theorem dX12_readLine_50 : decode cX12_readLine 50 = .ok (.invokevirtual 164, 3) := by decide +kernel
theorem dX12_readLine_53 : decode cX12_readLine 53 = .ok (.return_, 1) := by decide +kernel
theorem dX12_readAll_0 : decode cX12_readAll 0 = .ok (.iconst 1, 1) := by decide +kernel
theorem dX12_readAll_1 : decode cX12_readAll 1 = .ok (.istore_n 1, 1) := by decide +kernel
theorem dX12_readAll_2 : decode cX12_readAll 2 = .ok (.iload_n 1, 1) := by decide +kernel
theorem dX12_readAll_3 : decode cX12_readAll 3 = .ok (.ifCond .eq 17, 3) := by decide +kernel
theorem dX12_readAll_6 : decode cX12_readAll 6 = .ok (.aload_n 0, 1) := by decide +kernel
theorem dX12_readAll_7 : decode cX12_readAll 7 = .ok (.invokevirtual 198, 3) := by decide +kernel
theorem dX12_readAll_10 : decode cX12_readAll 10 = .ok (.aload_n 0, 1) := by decide +kernel
theorem dX12_readAll_11 : decode cX12_readAll 11 = .ok (.bipush 59, 2) := by decide +kernel
theorem dX12_readAll_13 : decode cX12_readAll 13 = .ok (.invokevirtual 201, 3) := by decide +kernel
theorem dX12_readAll_16 : decode cX12_readAll 16 = .ok (.istore_n 1, 1) := by decide +kernel
theorem dX12_readAll_17 : decode cX12_readAll 17 = .ok (.goto (-15), 3) := by decide +kernel
theorem dX12_readAll_20 : decode cX12_readAll 20 = .ok (.aload_n 0, 1) := by decide +kernel
theorem dX12_readAll_21 : decode cX12_readAll 21 = .ok (.getfield 118, 3) := by decide +kernel
theorem dX12_readAll_24 : decode cX12_readAll 24 = .ok (.iconst 1, 1) := by decide +kernel
theorem dX12_readAll_25 : decode cX12_readAll 25 = .ok (.if_icmp .eq 8, 3) := by decide +kernel
theorem dX12_readAll_28 : decode cX12_readAll 28 = .ok (.aload_n 0, 1) := by decide +kernel
theorem dX12_readAll_29 : decode cX12_readAll 29 = .ok (.iconst 1, 1) := by decide +kernel
theorem dX12_readAll_30 : decode cX12_readAll 30 = .ok (.invokevirtual 164, 3) := by decide +kernel
theorem dX12_readAll_33 : decode cX12_readAll 33 = .ok (.return_, 1) := by decide +kernel
set_option maxHeartbeats 4000000 in
set_option maxRecDepth 100000 in
theorem sX12_readEvening {l : Launch} {D : va_G} {cA : Nat → ClassId} {base : Nat} {sA : Nat → Nat} {r0 : Nat} {h hE : Zh} (hf : fX12_readEvening r0 h = some hE) : zC l yX12_readEvening cX12_readEvening 3 none 7 151 D cA base sA [.ref (base + r0)] h none hE := by
  refine g_entry RX12 (by decide) rfl (Nat.le_of_ble_eq_true rfl) ?_
  intro p e s m args below meth c X hr
  unfold fX12_readEvening at hf
  have hf := zlet_n (x := h) rfl hf
  show zG p l e { frames := 7, cells := 0, slots := 0, locals := 151 } s m args below meth c (MQ below (zQ D cA base h hE none) args s 0 0 (zA base)) 3 D cA base h 0 [(0, .ref (base + r0))] [] h
  refine g_aload_n X 0 dX12_readEvening_0 rfl ?_
  refine g_aload_n X 0 dX12_readEvening_1 rfl ?_
  obtain ⟨hk1, hf⟩ := zite hf
  obtain ⟨r_2, hr_2, hf⟩ := zbd hf
  refine g_get X zf12 hk1 4 (by decide) w_f_RX12_190 rfl (zfv_r hr_2 rfl) dX12_readEvening_2 ?_
  obtain ⟨hk3, hf⟩ := zite hf
  refine g_getN X zf11 hk3 6 (by decide) w_fn_RX12_305 rfl rfl dX12_readEvening_5 ?_
  refine g_bipush X (v := 9) dX12_readEvening_8 (by decide) ?_
  obtain ⟨h4, hch4, hf⟩ := zbd hf
  refine g_callV X 2 (sX12_begins hch4) zf12 hk1 ydX12_begins w_ml_RX12_262 w_instanceMethod_X12_begins w_sel_X12_begins w_ini_RX12 w_code_X12_begins (by decide) rfl (st := []) rfl rfl (Nat.le_of_ble_eq_true rfl) dX12_readEvening_10 ?_
  refine g_aload_n X 0 dX12_readEvening_13 rfl ?_
  refine g_get X zf12 hk1 9 (by decide) w_f_RX12_118 rfl rfl dX12_readEvening_14 ?_
  refine g_iconst X (v := 5) dX12_readEvening_17 (by decide) ?_
  refine g_icmp_ne X 22 dX12_readEvening_18 (by decide) (fun hq => ?_) (fun hq => ?_)
  · have hf := zneg hq hf
    refine g_iconst X (v := 5) dX12_readEvening_22 (by decide) ?_
    refine g_aload_n X 0 dX12_readEvening_23 rfl ?_
    obtain ⟨r_5, hr_5, hf⟩ := zbd hf
    refine g_get X zf12 hk1 4 (by decide) w_f_RX12_190 rfl (zfv_r hr_5 rfl) dX12_readEvening_24 ?_
    obtain ⟨hk6, hf⟩ := zite hf
    refine g_getN X zf11 hk6 6 (by decide) w_fn_RX12_305 rfl rfl dX12_readEvening_27 ?_
    refine g_imul X dX12_readEvening_30 ?_
    refine g_topi (fun y7 ey7 => ?_)
    have hf := zlet_n ey7 hf
    refine g_istore_n X [(1, .int y7), (0, .ref (base + r0))] dX12_readEvening_31 (by decide) rfl ?_
    refine g_aload_n X 1 dX12_readEvening_32 rfl ?_
    refine g_aload_n X 1 dX12_readEvening_33 rfl ?_
    obtain ⟨r_8, hr_8, hf⟩ := zbd hf
    refine g_get X zf12 hk1 4 (by decide) w_f_RX12_190 rfl (zfv_r hr_8 rfl) dX12_readEvening_34 ?_
    obtain ⟨hk9, hf⟩ := zite hf
    obtain ⟨r_10, hr_10, hf⟩ := zbd hf
    refine g_getN X zf11 hk9 11 (by decide) w_fn_RX12_308 rfl (zfv_r hr_10 rfl) dX12_readEvening_37 ?_
    refine g_iload_n X 0 dX12_readEvening_40 rfl ?_
    refine g_aload_n X 1 dX12_readEvening_41 rfl ?_
    obtain ⟨r_11, hr_11, hf⟩ := zbd hf
    refine g_get X zf12 hk1 4 (by decide) w_f_RX12_190 rfl (zfv_r hr_11 rfl) dX12_readEvening_42 ?_
    obtain ⟨hk12, hf⟩ := zite hf
    refine g_getN X zf11 hk12 2 (by decide) w_fn_RX12_232 rfl rfl dX12_readEvening_45 ?_
    refine g_aload_n X 1 dX12_readEvening_48 rfl ?_
    obtain ⟨r_13, hr_13, hf⟩ := zbd hf
    refine g_get X zf12 hk1 4 (by decide) w_f_RX12_190 rfl (zfv_r hr_13 rfl) dX12_readEvening_49 ?_
    obtain ⟨hk14, hf⟩ := zite hf
    refine g_getN X zf11 hk14 0 (by decide) w_fn_RX12_194 rfl rfl dX12_readEvening_52 ?_
    obtain ⟨h15, hch15, hf⟩ := zbd hf
    refine g_callV X 4 (sX12_readUnlike hch15) zf12 hk1 ydX12_readUnlike w_ml_RX12_311 w_instanceMethod_X12_readUnlike w_sel_X12_readUnlike w_ini_RX12 w_code_X12_readUnlike (by decide) rfl (st := []) rfl rfl (Nat.le_of_ble_eq_true rfl) dX12_readEvening_55 ?_
    refine g_aload_n X 1 dX12_readEvening_58 rfl ?_
    refine g_ldcS X (i := 11) (tx := "shows") (by decide) dX12_readEvening_59 ?_
    obtain ⟨h16, hch16, hf⟩ := zbd hf
    refine g_callV X 1 (sX12_needs hch16) zf12 hk1 ydX12_needs w_ml_RX12_172 w_instanceMethod_X12_needs w_sel_X12_needs w_ini_RX12 w_code_X12_needs (by decide) rfl (st := []) rfl rfl (Nat.le_of_ble_eq_true rfl) dX12_readEvening_61 ?_
    refine g_aload_n X 1 dX12_readEvening_64 rfl ?_
    refine g_aload_n X 1 dX12_readEvening_65 rfl ?_
    obtain ⟨r_17, hr_17, hf⟩ := zbd hf
    refine g_get X zf12 hk1 4 (by decide) w_f_RX12_190 rfl (zfv_r hr_17 rfl) dX12_readEvening_66 ?_
    obtain ⟨hk18, hf⟩ := zite hf
    obtain ⟨r_19, hr_19, hf⟩ := zbd hf
    refine g_getN X zf11 hk18 12 (by decide) w_fn_RX12_315 rfl (zfv_r hr_19 rfl) dX12_readEvening_69 ?_
    refine g_iload_n X 0 dX12_readEvening_72 rfl ?_
    refine g_aload_n X 1 dX12_readEvening_73 rfl ?_
    obtain ⟨r_20, hr_20, hf⟩ := zbd hf
    refine g_get X zf12 hk1 4 (by decide) w_f_RX12_190 rfl (zfv_r hr_20 rfl) dX12_readEvening_74 ?_
    obtain ⟨hk21, hf⟩ := zite hf
    refine g_getN X zf11 hk21 4 (by decide) w_fn_RX12_257 rfl rfl dX12_readEvening_77 ?_
    refine g_aload_n X 1 dX12_readEvening_80 rfl ?_
    obtain ⟨r_22, hr_22, hf⟩ := zbd hf
    refine g_get X zf12 hk1 4 (by decide) w_f_RX12_190 rfl (zfv_r hr_22 rfl) dX12_readEvening_81 ?_
    obtain ⟨hk23, hf⟩ := zite hf
    refine g_getN X zf11 hk23 0 (by decide) w_fn_RX12_194 rfl rfl dX12_readEvening_84 ?_
    obtain ⟨h24, hch24, hf⟩ := zbd hf
    refine g_callV X 4 (sX12_readUnlike hch24) zf12 hk1 ydX12_readUnlike w_ml_RX12_311 w_instanceMethod_X12_readUnlike w_sel_X12_readUnlike w_ini_RX12 w_code_X12_readUnlike (by decide) rfl (st := []) rfl rfl (Nat.le_of_ble_eq_true rfl) dX12_readEvening_87 ?_
    refine g_aload_n X 1 dX12_readEvening_90 rfl ?_
    obtain ⟨r_25, hr_25, hf⟩ := zbd hf
    refine g_get X zf12 hk1 4 (by decide) w_f_RX12_190 rfl (zfv_r hr_25 rfl) dX12_readEvening_91 ?_
    obtain ⟨hk26, hf⟩ := zite hf
    refine g_getN X zf11 hk26 9 (by decide) w_fn_RX12_250 rfl rfl dX12_readEvening_94 ?_
    have hJ117 : ∀ (t0_117 : Int32) (h_117 : Zh), jX12_readEvening_117 h r0 t0_117 h_117 = some hE → zG p l e { frames := 7, cells := 0, slots := 0, locals := 151 } s m args below meth c (MQ below (zQ D cA base h hE none) args s 0 0 (zA base)) 3 D cA base h 117 [(0, .ref (base + r0))] [.int t0_117] h_117 := by
      intro t0_117 h_117 hf
      unfold jX12_readEvening_117 at hf
      refine g_istore_n X [(2, .int t0_117), (0, .ref (base + r0))] dX12_readEvening_117 (by decide) rfl ?_
      refine g_aload_n X 1 dX12_readEvening_118 rfl ?_
      refine g_get X zf12 hk1 9 (by decide) w_f_RX12_118 rfl rfl dX12_readEvening_119 ?_
      refine g_iconst X (v := 5) dX12_readEvening_122 (by decide) ?_
      refine g_icmp_ne X 127 dX12_readEvening_123 (by decide) (fun hq => ?_) (fun hq => ?_)
      · have hf := zneg hq hf
        refine g_aload_n X 1 dX12_readEvening_127 rfl ?_
        obtain ⟨r_27, hr_27, hf⟩ := zbd hf
        refine g_get X zf12 hk1 4 (by decide) w_f_RX12_190 rfl (zfv_r hr_27 rfl) dX12_readEvening_128 ?_
        obtain ⟨hk28, hf⟩ := zite hf
        obtain ⟨r_29, hr_29, hf⟩ := zbd hf
        refine g_getN X zf11 hk28 13 (by decide) w_fn_RX12_319 rfl (zfv_r hr_29 rfl) dX12_readEvening_131 ?_
        refine g_aload_n X 1 dX12_readEvening_134 rfl ?_
        obtain ⟨r_30, hr_30, hf⟩ := zbd hf
        refine g_get X zf12 hk1 4 (by decide) w_f_RX12_190 rfl (zfv_r hr_30 rfl) dX12_readEvening_135 ?_
        obtain ⟨hk31, hf⟩ := zite hf
        refine g_getN X zf11 hk31 6 (by decide) w_fn_RX12_305 rfl rfl dX12_readEvening_138 ?_
        refine g_iload_n X 0 dX12_readEvening_141 rfl ?_
        obtain ⟨hk32, hf⟩ := zite hf
        obtain ⟨hi33, hf⟩ := zite hf
        refine g_iast X hk32 hi33 dX12_readEvening_142 ?_
        refine g_hp (fun h34 eh34 => ?_)
        have hf := zlet_n eh34 hf
        refine g_aload_n X 1 dX12_readEvening_143 rfl ?_
        obtain ⟨r_35, hr_35, hf⟩ := zbd hf
        refine g_get X zf12 hk1 4 (by decide) w_f_RX12_190 rfl (zfv_r hr_35 rfl) dX12_readEvening_144 ?_
        refine g_dup X dX12_readEvening_147 rfl ?_
        obtain ⟨hk36, hf⟩ := zite hf
        refine g_getN X zf11 hk36 6 (by decide) w_fn_RX12_305 rfl rfl dX12_readEvening_148 ?_
        refine g_iconst X (v := 1) dX12_readEvening_151 (by decide) ?_
        refine g_iadd X dX12_readEvening_152 ?_
        refine g_putIN X zf11 hk36 6 (by decide) w_fn_RX12_305 rfl rfl rfl dX12_readEvening_153 ?_
        refine g_hp (fun h37 eh37 => ?_)
        have hf := zlet_n eh37 hf
        cases hf
        exact g_vret X hr dX12_readEvening_156
      · have hf := zpos hq hf
        cases hf
        exact g_vret X hr dX12_readEvening_126
    have hJ116 : ∀  (h_116 : Zh), jX12_readEvening_116 h r0 h_116 = some hE → zG p l e { frames := 7, cells := 0, slots := 0, locals := 151 } s m args below meth c (MQ below (zQ D cA base h hE none) args s 0 0 (zA base)) 3 D cA base h 116 [(0, .ref (base + r0))] [] h_116 := by
      intro  h_116 hf
      unfold jX12_readEvening_116 at hf
      refine g_iconst X (v := 0) dX12_readEvening_116 (by decide) ?_
      refine g_sub [0] rfl ?_
      exact hJ117 _ _ hf
    refine g_if_eq X 116 dX12_readEvening_97 (by decide) (fun hq => ?_) (fun hq => ?_)
    · have hf := zpos hq hf
      refine g_sub [1] rfl ?_
      exact hJ116 _ hf
    · have hf := zneg hq hf
      refine g_aload_n X 1 dX12_readEvening_100 rfl ?_
      refine g_ldcS X (i := 12) (tx := "tilted") (by decide) dX12_readEvening_101 ?_
      obtain ⟨v39, h38, hch38, hf⟩ := zc2_e hf
      refine g_callV X 1 (sX12_eatsWord hch38) zf12 hk1 ydX12_eatsWord w_ml_RX12_242 w_instanceMethod_X12_eatsWord w_sel_X12_eatsWord w_ini_RX12 w_code_X12_eatsWord (by decide) rfl (st := []) rfl rfl (Nat.le_of_ble_eq_true rfl) dX12_readEvening_103 ?_
      refine g_if_eq X 116 dX12_readEvening_106 (by decide) (fun hq => ?_) (fun hq => ?_)
      · have hf := zpos hq hf
        refine g_sub [1] rfl ?_
        exact hJ116 _ hf
      · have hf := zneg hq hf
        refine g_aload_n X 1 dX12_readEvening_109 rfl ?_
        obtain ⟨v41, h40, hch40, hf⟩ := zc2_e hf
        refine g_callV X 0 (sX12_readPlaces hch40) zf12 hk1 ydX12_readPlaces w_ml_RX12_316 w_instanceMethod_X12_readPlaces w_sel_X12_readPlaces w_ini_RX12 w_code_X12_readPlaces (by decide) rfl (st := []) rfl rfl (Nat.le_of_ble_eq_true rfl) dX12_readEvening_110 ?_
        refine g_goto X 117 dX12_readEvening_113 (by decide) ?_
        refine g_sub [1] rfl ?_
        exact hJ117 _ _ hf
  · have hf := zpos hq hf
    cases hf
    exact g_vret X hr dX12_readEvening_21

set_option maxHeartbeats 4000000 in
set_option maxRecDepth 100000 in
theorem sX12_readLine {l : Launch} {D : va_G} {cA : Nat → ClassId} {base : Nat} {sA : Nat → Nat} {r0 : Nat} {h hE : Zh} (hf : fX12_readLine r0 h = some hE) : zC l yX12_readLine cX12_readLine 1 none 9 198 D cA base sA [.ref (base + r0)] h none hE := by
  refine g_entry RX12 (by decide) rfl (Nat.le_of_ble_eq_true rfl) ?_
  intro p e s m args below meth c X hr
  unfold fX12_readLine at hf
  have hf := zlet_n (x := h) rfl hf
  show zG p l e { frames := 9, cells := 0, slots := 0, locals := 198 } s m args below meth c (MQ below (zQ D cA base h hE none) args s 0 0 (zA base)) 1 D cA base h 0 [(0, .ref (base + r0))] [] h
  refine g_aload_n X 0 dX12_readLine_0 rfl ?_
  refine g_ldcS X (i := 0) (tx := "trick") (by decide) dX12_readLine_1 ?_
  obtain ⟨hk1, hf⟩ := zite hf
  obtain ⟨v3, h2, hch2, hf⟩ := zc2_e hf
  refine g_callV X 1 (sX12_isWord hch2) zf12 hk1 ydX12_isWord w_ml_RX12_157 w_instanceMethod_X12_isWord w_sel_X12_isWord w_ini_RX12 w_code_X12_isWord (by decide) rfl (st := []) rfl rfl (Nat.le_of_ble_eq_true rfl) dX12_readLine_3 ?_
  refine g_if_eq X 16 dX12_readLine_6 (by decide) (fun hq => ?_) (fun hq => ?_)
  · have hf := zpos hq hf
    refine g_aload_n X 0 dX12_readLine_16 rfl ?_
    refine g_ldcS X (i := 9) (tx := "rule") (by decide) dX12_readLine_17 ?_
    obtain ⟨v5, h4, hch4, hf⟩ := zc2_e hf
    refine g_callV X 1 (sX12_isWord hch4) zf12 hk1 ydX12_isWord w_ml_RX12_157 w_instanceMethod_X12_isWord w_sel_X12_isWord w_ini_RX12 w_code_X12_isWord (by decide) rfl (st := []) rfl rfl (Nat.le_of_ble_eq_true rfl) dX12_readLine_19 ?_
    refine g_if_eq X 32 dX12_readLine_22 (by decide) (fun hq => ?_) (fun hq => ?_)
    · have hf := zpos hq hf
      refine g_aload_n X 0 dX12_readLine_32 rfl ?_
      refine g_ldcS X (i := 10) (tx := "evening") (by decide) dX12_readLine_33 ?_
      obtain ⟨v7, h6, hch6, hf⟩ := zc2_e hf
      refine g_callV X 1 (sX12_isWord hch6) zf12 hk1 ydX12_isWord w_ml_RX12_157 w_instanceMethod_X12_isWord w_sel_X12_isWord w_ini_RX12 w_code_X12_isWord (by decide) rfl (st := []) rfl rfl (Nat.le_of_ble_eq_true rfl) dX12_readLine_35 ?_
      refine g_if_eq X 48 dX12_readLine_38 (by decide) (fun hq => ?_) (fun hq => ?_)
      · have hf := zpos hq hf
        refine g_aload_n X 0 dX12_readLine_48 rfl ?_
        refine g_iconst X (v := 1) dX12_readLine_49 (by decide) ?_
        obtain ⟨h8, hch8, hf⟩ := zbd hf
        refine g_callV X 1 (sX12_flaw hch8) zf12 hk1 ydX12_flaw w_ml_RX12_164 w_instanceMethod_X12_flaw w_sel_X12_flaw w_ini_RX12 w_code_X12_flaw (by decide) rfl (st := []) rfl rfl (Nat.le_of_ble_eq_true rfl) dX12_readLine_50 ?_
        cases hf
        exact g_vret X hr dX12_readLine_53
      · have hf := zneg hq hf
        refine g_aload_n X 0 dX12_readLine_41 rfl ?_
        obtain ⟨h9, hch9, hf⟩ := zbd hf
        refine g_callV X 0 (sX12_readEvening hch9) zf12 hk1 ydX12_readEvening w_ml_RX12_210 w_instanceMethod_X12_readEvening w_sel_X12_readEvening w_ini_RX12 w_code_X12_readEvening (by decide) rfl (st := []) rfl rfl (Nat.le_of_ble_eq_true rfl) dX12_readLine_42 ?_
        refine g_goto X 53 dX12_readLine_45 (by decide) ?_
        cases hf
        exact g_vret X hr dX12_readLine_53
    · have hf := zneg hq hf
      refine g_aload_n X 0 dX12_readLine_25 rfl ?_
      obtain ⟨h10, hch10, hf⟩ := zbd hf
      refine g_callV X 0 (sX12_readRule hch10) zf12 hk1 ydX12_readRule w_ml_RX12_207 w_instanceMethod_X12_readRule w_sel_X12_readRule w_ini_RX12 w_code_X12_readRule (by decide) rfl (st := []) rfl rfl (Nat.le_of_ble_eq_true rfl) dX12_readLine_26 ?_
      refine g_goto X 53 dX12_readLine_29 (by decide) ?_
      cases hf
      exact g_vret X hr dX12_readLine_53
  · have hf := zneg hq hf
    refine g_aload_n X 0 dX12_readLine_9 rfl ?_
    obtain ⟨h11, hch11, hf⟩ := zbd hf
    refine g_callV X 0 (sX12_readTrick hch11) zf12 hk1 ydX12_readTrick w_ml_RX12_204 w_instanceMethod_X12_readTrick w_sel_X12_readTrick w_ini_RX12 w_code_X12_readTrick (by decide) rfl (st := []) rfl rfl (Nat.le_of_ble_eq_true rfl) dX12_readLine_10 ?_
    refine g_goto X 53 dX12_readLine_13 (by decide) ?_
    cases hf
    exact g_vret X hr dX12_readLine_53

set_option maxHeartbeats 4000000 in
set_option maxRecDepth 100000 in
theorem sX12_readAll {l : Launch} {D : va_G} {cA : Nat → ClassId} {base : Nat} {sA : Nat → Nat} {r0 : Nat} {h hE : Zh} (hf : fX12_readAll r0 h = some hE) : zC l yX12_readAll cX12_readAll 2 none 10 218 D cA base sA [.ref (base + r0)] h none hE := by
  refine g_entry RX12 (by decide) rfl (Nat.le_of_ble_eq_true rfl) ?_
  intro p e s m args below meth c X hr
  unfold fX12_readAll at hf
  have hf := zlet_n (x := h) rfl hf
  show zG p l e { frames := 10, cells := 0, slots := 0, locals := 218 } s m args below meth c (MQ below (zQ D cA base h hE none) args s 0 0 (zA base)) 2 D cA base h 0 [(0, .ref (base + r0))] [] h
  refine g_iconst X (v := 1) dX12_readAll_0 (by decide) ?_
  refine g_istore_n X [(1, .int ((1 : Int32))), (0, .ref (base + r0))] dX12_readAll_1 (by decide) rfl ?_
  refine g_sub [1, 0] rfl ?_
  obtain ⟨qq, hlp, hf⟩ := zbd hf
  refine lp_snd (body := (fun q : Int32 × Zh => bX12_readAll_2 h r0 q.1 q.2)) (P := (fun q : Int32 × Zh => zG p l e { frames := 10, cells := 0, slots := 0, locals := 218 } s m args below meth c (MQ below (zQ D cA base h hE none) args s 0 0 (zA base)) 2 D cA base h 2 [(0, .ref (base + r0)), (1, .int q.1)] [] q.2)) (E := (fun (en : Nat) (q : Int32 × Zh) => zG p l e { frames := 10, cells := 0, slots := 0, locals := 218 } s m args below meth c (MQ below (zQ D cA base h hE none) args s 0 0 (zA base)) 2 D cA base h 20 [(0, .ref (base + r0))] [] q.2)) ?_ zB ((1 : Int32), h) qq.1 qq.2 hlp ?_
  · intro q e_2 q_2 hf hc0 hc1
    obtain ⟨x1_2, h_2⟩ := q
    have hf : bX12_readAll_2 h r0 x1_2 h_2 = some (e_2, q_2) := hf
    unfold bX12_readAll_2 at hf
    show zG p l e { frames := 10, cells := 0, slots := 0, locals := 218 } s m args below meth c (MQ below (zQ D cA base h hE none) args s 0 0 (zA base)) 2 D cA base h 2 [(0, .ref (base + r0)), (1, .int x1_2)] [] h_2
    refine g_iload_n X 1 dX12_readAll_2 rfl ?_
    refine g_if_eq X 20 dX12_readAll_3 (by decide) (fun hq => ?_) (fun hq => ?_)
    · have hf := zpos hq hf
      cases hf
      have hc1 := hc1 (by decide)
      exact g_sub [0] rfl hc1
    · have hf := zneg hq hf
      refine g_aload_n X 0 dX12_readAll_6 rfl ?_
      obtain ⟨hk1, hf⟩ := zite hf
      obtain ⟨h2, hch2, hf⟩ := zbd hf
      refine g_callV X 0 (sX12_readLine hch2) zf12 hk1 ydX12_readLine w_ml_RX12_198 w_instanceMethod_X12_readLine w_sel_X12_readLine w_ini_RX12 w_code_X12_readLine (by decide) rfl (st := []) rfl rfl (Nat.le_of_ble_eq_true rfl) dX12_readAll_7 ?_
      refine g_aload_n X 0 dX12_readAll_10 rfl ?_
      refine g_bipush X (v := 59) dX12_readAll_11 (by decide) ?_
      obtain ⟨v4, h3, hch3, hf⟩ := zc2_e hf
      refine g_callV X 1 (sX12_eatsSign hch3) zf12 hk1 ydX12_eatsSign w_ml_RX12_201 w_instanceMethod_X12_eatsSign w_sel_X12_eatsSign w_ini_RX12 w_code_X12_eatsSign (by decide) rfl (st := []) rfl rfl (Nat.le_of_ble_eq_true rfl) dX12_readAll_13 ?_
      refine g_istore_n X [(1, .int v4), (0, .ref (base + r0))] dX12_readAll_16 (by decide) rfl ?_
      refine g_goto X 2 dX12_readAll_17 (by decide) ?_
      cases hf
      exact g_sub [1, 0] rfl (hc0 rfl)
  · obtain ⟨ee, x1_k2, h_k2⟩ := qq
    have hf : kX12_readAll_2 h r0 ee x1_k2 h_k2 = some hE := hf
    unfold kX12_readAll_2 at hf
    show zG p l e { frames := 10, cells := 0, slots := 0, locals := 218 } s m args below meth c (MQ below (zQ D cA base h hE none) args s 0 0 (zA base)) 2 D cA base h 20 [(0, .ref (base + r0))] [] h_k2
    refine g_aload_n X 0 dX12_readAll_20 rfl ?_
    obtain ⟨hk5, hf⟩ := zite hf
    refine g_get X zf12 hk5 9 (by decide) w_f_RX12_118 rfl rfl dX12_readAll_21 ?_
    refine g_iconst X (v := 1) dX12_readAll_24 (by decide) ?_
    refine g_icmp_eq X 33 dX12_readAll_25 (by decide) (fun hq => ?_) (fun hq => ?_)
    · have hf := zpos hq hf
      cases hf
      exact g_vret X hr dX12_readAll_33
    · have hf := zneg hq hf
      refine g_aload_n X 0 dX12_readAll_28 rfl ?_
      refine g_iconst X (v := 1) dX12_readAll_29 (by decide) ?_
      obtain ⟨h6, hch6, hf⟩ := zbd hf
      refine g_callV X 1 (sX12_flaw hch6) zf12 hk5 ydX12_flaw w_ml_RX12_164 w_instanceMethod_X12_flaw w_sel_X12_flaw w_ini_RX12 w_code_X12_flaw (by decide) rfl (st := []) rfl rfl (Nat.le_of_ble_eq_true rfl) dX12_readAll_30 ?_
      cases hf
      exact g_vret X hr dX12_readAll_33

