/-! FifthCardModel size -/
def fX12_size (r0 : Nat) (x1 : Int32) (h : Zh) : Option (Int32 × Zh) := zlet h fun g =>
  if zK g r0 = 12 then zlet (zsI h r0 0 ((0 : Int32))) fun h2 => if x1 = ((11 : Int32)) then some (zI h2 r0 6, h2) else zc2 (fX12_in x1 ((0 : Int32)) ((10 : Int32)) h2) fun v4 h3 => if v4 = 0 then some ((-1 : Int32), h3) else if (zR h3 r0 3).isSome = true then if x1 = 0 then (zR h3 r0 3).bind fun r_5 => if zK g r_5 = 11 then some (zI h3 r_5 0, h3) else none else if x1 = 1 then (zR h3 r0 3).bind fun r_7 => if zK g r_7 = 11 then some (zI h3 r_7 1, h3) else none else if x1 = 2 then (zR h3 r0 3).bind fun r_9 => if zK g r_9 = 11 then some (zI h3 r_9 2, h3) else none else if x1 = 3 then (zR h3 r0 3).bind fun r_11 => if zK g r_11 = 11 then some (zI h3 r_11 3, h3) else none else if x1 = 4 then (zR h3 r0 3).bind fun r_13 => if zK g r_13 = 11 then if (zI h3 r_13 7) = 0 then some ((0 : Int32), h3) else some ((1 : Int32), h3) else none else if x1 = 5 then (zR h3 r0 3).bind fun r_15 => if zK g r_15 = 11 then if (zI h3 r_15 8) = 0 then some ((0 : Int32), h3) else some ((1 : Int32), h3) else none else if x1 = 6 then (zR h3 r0 3).bind fun r_17 => if zK g r_17 = 11 then if (zI h3 r_17 9) = 0 then some ((0 : Int32), h3) else some ((1 : Int32), h3) else none else if x1 = 7 then (zR h3 r0 3).bind fun r_19 => if zK g r_19 = 11 then some (zI h3 r_19 5, h3) else none else if x1 = 8 then some (zI h3 r0 43, h3) else if x1 = 9 then some (zI h3 r0 45, h3) else some (zI h3 r0 44, h3) else some ((0 : Int32), h3) else none
/-! FifthCardModel words -/
def fX12_words (r0 : Nat) (x1 : Int32) (h : Zh) : Option (Int32 × Zh) := zlet h fun g =>
  if zK g r0 = 12 then zlet (zsI h r0 0 ((0 : Int32))) fun h2 => zc2 (fX12_isRule r0 x1 h2) fun v4 h3 => if v4 = 0 then some ((-1 : Int32), h3) else (zR h3 r0 3).bind fun r_5 => if zK g r_5 = 11 then (zR h3 r_5 10).bind fun r_7 => if zK g r_7 = 100 then if zin x1 (zL g r_7) then some (zI h3 r_7 x1.toNatClampNeg, h3) else none else none else none else none
/-! FifthCardModel trouble -/
def fX12_trouble (r0 : Nat) (h : Zh) : Option (Int32 × Zh) := zlet h fun g =>
  if zK g r0 = 12 then zlet (zsI h r0 0 ((0 : Int32))) fun h2 => some (zI h2 r0 1, h2) else none
theorem dX12_size_0 : decode cX12_size 0 = .ok (.aload_n 0, 1) := by decide +kernel
theorem dX12_size_1 : decode cX12_size 1 = .ok (.iconst 0, 1) := by decide +kernel
theorem dX12_size_2 : decode cX12_size 2 = .ok (.putfield 86, 3) := by decide +kernel
theorem dX12_size_5 : decode cX12_size 5 = .ok (.iload_n 1, 1) := by decide +kernel
theorem dX12_size_6 : decode cX12_size 6 = .ok (.bipush 11, 2) := by decide +kernel
theorem dX12_size_8 : decode cX12_size 8 = .ok (.if_icmp .ne 8, 3) := by decide +kernel
theorem dX12_size_11 : decode cX12_size 11 = .ok (.aload_n 0, 1) := by decide +kernel
theorem dX12_size_12 : decode cX12_size 12 = .ok (.getfield 322, 3) := by decide +kernel
theorem dX12_size_15 : decode cX12_size 15 = .ok (.ireturn, 1) := by decide +kernel
theorem dX12_size_16 : decode cX12_size 16 = .ok (.iload_n 1, 1) := by decide +kernel
theorem dX12_size_17 : decode cX12_size 17 = .ok (.iconst 0, 1) := by decide +kernel
theorem dX12_size_18 : decode cX12_size 18 = .ok (.bipush 10, 2) := by decide +kernel
theorem dX12_size_20 : decode cX12_size 20 = .ok (.invokestatic 168, 3) := by decide +kernel
theorem dX12_size_23 : decode cX12_size 23 = .ok (.ifCond .ne 5, 3) := by decide +kernel
theorem dX12_size_26 : decode cX12_size 26 = .ok (.iconst (-1), 1) := by decide +kernel
theorem dX12_size_27 : decode cX12_size 27 = .ok (.ireturn, 1) := by decide +kernel
theorem dX12_size_28 : decode cX12_size 28 = .ok (.aload_n 0, 1) := by decide +kernel
theorem dX12_size_29 : decode cX12_size 29 = .ok (.getfield 329, 3) := by decide +kernel
theorem dX12_size_32 : decode cX12_size 32 = .ok (.ifnonnull 5, 3) := by decide +kernel
theorem dX12_size_35 : decode cX12_size 35 = .ok (.iconst 0, 1) := by decide +kernel
theorem dX12_size_36 : decode cX12_size 36 = .ok (.ireturn, 1) := by decide +kernel
theorem dX12_size_37 : decode cX12_size 37 = .ok (.iload_n 1, 1) := by decide +kernel
theorem dX12_size_38 : decode cX12_size 38 = .ok (.tableswitch 152 0 9 #[54, 62, 70, 78, 86, 102, 118, 134, 142, 147], 54) := by decide +kernel
theorem dX12_size_92 : decode cX12_size 92 = .ok (.aload_n 0, 1) := by decide +kernel
theorem dX12_size_93 : decode cX12_size 93 = .ok (.getfield 329, 3) := by decide +kernel
theorem dX12_size_96 : decode cX12_size 96 = .ok (.getfield 194, 3) := by decide +kernel
theorem dX12_size_99 : decode cX12_size 99 = .ok (.ireturn, 1) := by decide +kernel
theorem dX12_size_100 : decode cX12_size 100 = .ok (.aload_n 0, 1) := by decide +kernel
theorem dX12_size_101 : decode cX12_size 101 = .ok (.getfield 329, 3) := by decide +kernel
theorem dX12_size_104 : decode cX12_size 104 = .ok (.getfield 253, 3) := by decide +kernel
theorem dX12_size_107 : decode cX12_size 107 = .ok (.ireturn, 1) := by decide +kernel
theorem dX12_size_108 : decode cX12_size 108 = .ok (.aload_n 0, 1) := by decide +kernel
theorem dX12_size_109 : decode cX12_size 109 = .ok (.getfield 329, 3) := by decide +kernel
theorem dX12_size_112 : decode cX12_size 112 = .ok (.getfield 232, 3) := by decide +kernel
theorem dX12_size_115 : decode cX12_size 115 = .ok (.ireturn, 1) := by decide +kernel
theorem dX12_size_116 : decode cX12_size 116 = .ok (.aload_n 0, 1) := by decide +kernel
theorem dX12_size_117 : decode cX12_size 117 = .ok (.getfield 329, 3) := by decide +kernel
theorem dX12_size_120 : decode cX12_size 120 = .ok (.getfield 255, 3) := by decide +kernel
theorem dX12_size_123 : decode cX12_size 123 = .ok (.ireturn, 1) := by decide +kernel
theorem dX12_size_124 : decode cX12_size 124 = .ok (.aload_n 0, 1) := by decide +kernel
theorem dX12_size_125 : decode cX12_size 125 = .ok (.getfield 329, 3) := by decide +kernel
theorem dX12_size_128 : decode cX12_size 128 = .ok (.getfield 228, 3) := by decide +kernel
theorem dX12_size_131 : decode cX12_size 131 = .ok (.ifCond .eq 7, 3) := by decide +kernel
theorem dX12_size_134 : decode cX12_size 134 = .ok (.iconst 1, 1) := by decide +kernel
theorem dX12_size_135 : decode cX12_size 135 = .ok (.goto 4, 3) := by decide +kernel
theorem dX12_size_138 : decode cX12_size 138 = .ok (.iconst 0, 1) := by decide +kernel
theorem dX12_size_139 : decode cX12_size 139 = .ok (.ireturn, 1) := by decide +kernel
theorem dX12_size_140 : decode cX12_size 140 = .ok (.aload_n 0, 1) := by decide +kernel
theorem dX12_size_141 : decode cX12_size 141 = .ok (.getfield 329, 3) := by decide +kernel
theorem dX12_size_144 : decode cX12_size 144 = .ok (.getfield 245, 3) := by decide +kernel
theorem dX12_size_147 : decode cX12_size 147 = .ok (.ifCond .eq 7, 3) := by decide +kernel
theorem dX12_size_150 : decode cX12_size 150 = .ok (.iconst 1, 1) := by decide +kernel
theorem dX12_size_151 : decode cX12_size 151 = .ok (.goto 4, 3) := by decide +kernel
theorem dX12_size_154 : decode cX12_size 154 = .ok (.iconst 0, 1) := by decide +kernel
theorem dX12_size_155 : decode cX12_size 155 = .ok (.ireturn, 1) := by decide +kernel
theorem dX12_size_156 : decode cX12_size 156 = .ok (.aload_n 0, 1) := by decide +kernel
theorem dX12_size_157 : decode cX12_size 157 = .ok (.getfield 329, 3) := by decide +kernel
theorem dX12_size_160 : decode cX12_size 160 = .ok (.getfield 250, 3) := by decide +kernel
theorem dX12_size_163 : decode cX12_size 163 = .ok (.ifCond .eq 7, 3) := by decide +kernel
theorem dX12_size_166 : decode cX12_size 166 = .ok (.iconst 1, 1) := by decide +kernel
theorem dX12_size_167 : decode cX12_size 167 = .ok (.goto 4, 3) := by decide +kernel
theorem dX12_size_170 : decode cX12_size 170 = .ok (.iconst 0, 1) := by decide +kernel
theorem dX12_size_171 : decode cX12_size 171 = .ok (.ireturn, 1) := by decide +kernel
theorem dX12_size_172 : decode cX12_size 172 = .ok (.aload_n 0, 1) := by decide +kernel
theorem dX12_size_173 : decode cX12_size 173 = .ok (.getfield 329, 3) := by decide +kernel
theorem dX12_size_176 : decode cX12_size 176 = .ok (.getfield 259, 3) := by decide +kernel
theorem dX12_size_179 : decode cX12_size 179 = .ok (.ireturn, 1) := by decide +kernel
theorem dX12_size_180 : decode cX12_size 180 = .ok (.aload_n 0, 1) := by decide +kernel
theorem dX12_size_181 : decode cX12_size 181 = .ok (.getfield 346, 3) := by decide +kernel
theorem dX12_size_184 : decode cX12_size 184 = .ok (.ireturn, 1) := by decide +kernel
theorem dX12_size_185 : decode cX12_size 185 = .ok (.aload_n 0, 1) := by decide +kernel
theorem dX12_size_186 : decode cX12_size 186 = .ok (.getfield 331, 3) := by decide +kernel
theorem dX12_size_189 : decode cX12_size 189 = .ok (.ireturn, 1) := by decide +kernel
theorem dX12_size_190 : decode cX12_size 190 = .ok (.aload_n 0, 1) := by decide +kernel
theorem dX12_size_191 : decode cX12_size 191 = .ok (.getfield 334, 3) := by decide +kernel
theorem dX12_size_194 : decode cX12_size 194 = .ok (.ireturn, 1) := by decide +kernel
theorem dX12_words_0 : decode cX12_words 0 = .ok (.aload_n 0, 1) := by decide +kernel
theorem dX12_words_1 : decode cX12_words 1 = .ok (.iconst 0, 1) := by decide +kernel
theorem dX12_words_2 : decode cX12_words 2 = .ok (.putfield 86, 3) := by decide +kernel
theorem dX12_words_5 : decode cX12_words 5 = .ok (.aload_n 0, 1) := by decide +kernel
theorem dX12_words_6 : decode cX12_words 6 = .ok (.iload_n 1, 1) := by decide +kernel
theorem dX12_words_7 : decode cX12_words 7 = .ok (.invokevirtual 430, 3) := by decide +kernel
theorem dX12_words_10 : decode cX12_words 10 = .ok (.ifCond .eq 15, 3) := by decide +kernel
theorem dX12_words_13 : decode cX12_words 13 = .ok (.aload_n 0, 1) := by decide +kernel
theorem dX12_words_14 : decode cX12_words 14 = .ok (.getfield 329, 3) := by decide +kernel
theorem dX12_words_17 : decode cX12_words 17 = .ok (.getfield 283, 3) := by decide +kernel
theorem dX12_words_20 : decode cX12_words 20 = .ok (.iload_n 1, 1) := by decide +kernel
theorem dX12_words_21 : decode cX12_words 21 = .ok (.iaload, 1) := by decide +kernel
theorem dX12_words_22 : decode cX12_words 22 = .ok (.goto 4, 3) := by decide +kernel
theorem dX12_words_25 : decode cX12_words 25 = .ok (.iconst (-1), 1) := by decide +kernel
theorem dX12_words_26 : decode cX12_words 26 = .ok (.ireturn, 1) := by decide +kernel
theorem dX12_trouble_0 : decode cX12_trouble 0 = .ok (.aload_n 0, 1) := by decide +kernel
theorem dX12_trouble_1 : decode cX12_trouble 1 = .ok (.iconst 0, 1) := by decide +kernel
theorem dX12_trouble_2 : decode cX12_trouble 2 = .ok (.putfield 86, 3) := by decide +kernel
theorem dX12_trouble_5 : decode cX12_trouble 5 = .ok (.aload_n 0, 1) := by decide +kernel
theorem dX12_trouble_6 : decode cX12_trouble 6 = .ok (.getfield 89, 3) := by decide +kernel
theorem dX12_trouble_9 : decode cX12_trouble 9 = .ok (.ireturn, 1) := by decide +kernel
set_option maxHeartbeats 4000000 in
set_option maxRecDepth 100000 in
theorem sX12_size {l : Launch} {D : va_G} {cA : Nat → ClassId} {base : Nat} {sA : Nat → Nat} {r0 : Nat} {x1 : Int32} {h hE : Zh} {rE : Int32} (hf : fX12_size r0 x1 h = some (rE, hE)) : zC l yX12_size cX12_size 2 (some .int) 1 22 D cA base sA [.ref (base + r0), .int x1] h (some (.int rE)) hE := by
  refine g_entry RX12 (by decide) rfl (Nat.le_of_ble_eq_true rfl) ?_
  intro p e s m args below meth c X hr
  unfold fX12_size at hf
  have hf := zlet_n (x := h) rfl hf
  show zG p l e { frames := 1, cells := 0, slots := 0, locals := 22 } s m args below meth c (MQ below (zQ D cA base h hE (some (.int rE))) args s 0 0 (zA base)) 2 D cA base h 0 [(0, .ref (base + r0)), (1, .int x1)] [] h
  refine g_aload_n X 0 dX12_size_0 rfl ?_
  refine g_iconst X (v := 0) dX12_size_1 (by decide) ?_
  obtain ⟨hk1, hf⟩ := zite hf
  refine g_putI X zf12 hk1 0 (by decide) w_f_RX12_86 rfl rfl rfl dX12_size_2 ?_
  refine g_hp (fun h2 eh2 => ?_)
  have hf := zlet_n eh2 hf
  refine g_iload_n X 1 dX12_size_5 rfl ?_
  refine g_bipush X (v := 11) dX12_size_6 (by decide) ?_
  refine g_icmp_ne X 16 dX12_size_8 (by decide) (fun hq => ?_) (fun hq => ?_)
  · have hf := zneg hq hf
    refine g_iload_n X 1 dX12_size_16 rfl ?_
    refine g_iconst X (v := 0) dX12_size_17 (by decide) ?_
    refine g_bipush X (v := 10) dX12_size_18 (by decide) ?_
    obtain ⟨v4, h3, hch3, hf⟩ := zc2_e hf
    refine g_callS X 3 (sX12_in hch3) ysX12_in w_ml_RX12_168 w_static_X12_in w_ini_RX12 w_code_X12_in (by decide) rfl (st := []) rfl rfl (Nat.le_of_ble_eq_true rfl) dX12_size_20 ?_
    refine g_if_ne X 28 dX12_size_23 (by decide) (fun hq => ?_) (fun hq => ?_)
    · have hf := zneg hq hf
      refine g_aload_n X 0 dX12_size_28 rfl ?_
      refine g_get X zf12 hk1 3 (by decide) w_f_RX12_329 rfl rfl dX12_size_29 ?_
      refine g_ifnonnull X 37 dX12_size_32 (by decide) (fun _ hq => ?_) (fun hq => ?_)
      · have hf := zpos (by rw [hq]; rfl) hf
        refine g_iload_n X 1 dX12_size_37 rfl ?_
        by_cases hs7 : x1 = 0
        · have hf := zpos hs7 hf
          refine g_tswIn X 92 dX12_size_38 (by rw [hs7]; decide) (by rw [hs7]; decide) (by rw [hs7]; rfl) (by decide) ?_
          refine g_aload_n X 0 dX12_size_92 rfl ?_
          obtain ⟨r_5, hr_5, hf⟩ := zbd hf
          refine g_get X zf12 hk1 3 (by decide) w_f_RX12_329 rfl (zfv_r hr_5 rfl) dX12_size_93 ?_
          obtain ⟨hk6, hf⟩ := zite hf
          refine g_getN X zf11 hk6 0 (by decide) w_fn_RX12_194 rfl rfl dX12_size_96 ?_
          obtain ⟨rfl, rfl⟩ := zsm hf
          exact g_iret X hr dX12_size_99
        have hf := zneg hs7 hf
        have ehs7 := lv_neT hs7 (a := 0) (by decide)
        by_cases hs10 : x1 = 1
        · have hf := zpos hs10 hf
          refine g_tswIn X 100 dX12_size_38 (by rw [hs10]; decide) (by rw [hs10]; decide) (by rw [hs10]; rfl) (by decide) ?_
          refine g_aload_n X 0 dX12_size_100 rfl ?_
          obtain ⟨r_8, hr_8, hf⟩ := zbd hf
          refine g_get X zf12 hk1 3 (by decide) w_f_RX12_329 rfl (zfv_r hr_8 rfl) dX12_size_101 ?_
          obtain ⟨hk9, hf⟩ := zite hf
          refine g_getN X zf11 hk9 1 (by decide) w_fn_RX12_253 rfl rfl dX12_size_104 ?_
          obtain ⟨rfl, rfl⟩ := zsm hf
          exact g_iret X hr dX12_size_107
        have hf := zneg hs10 hf
        have ehs10 := lv_neT hs10 (a := 1) (by decide)
        by_cases hs13 : x1 = 2
        · have hf := zpos hs13 hf
          refine g_tswIn X 108 dX12_size_38 (by rw [hs13]; decide) (by rw [hs13]; decide) (by rw [hs13]; rfl) (by decide) ?_
          refine g_aload_n X 0 dX12_size_108 rfl ?_
          obtain ⟨r_11, hr_11, hf⟩ := zbd hf
          refine g_get X zf12 hk1 3 (by decide) w_f_RX12_329 rfl (zfv_r hr_11 rfl) dX12_size_109 ?_
          obtain ⟨hk12, hf⟩ := zite hf
          refine g_getN X zf11 hk12 2 (by decide) w_fn_RX12_232 rfl rfl dX12_size_112 ?_
          obtain ⟨rfl, rfl⟩ := zsm hf
          exact g_iret X hr dX12_size_115
        have hf := zneg hs13 hf
        have ehs13 := lv_neT hs13 (a := 2) (by decide)
        by_cases hs16 : x1 = 3
        · have hf := zpos hs16 hf
          refine g_tswIn X 116 dX12_size_38 (by rw [hs16]; decide) (by rw [hs16]; decide) (by rw [hs16]; rfl) (by decide) ?_
          refine g_aload_n X 0 dX12_size_116 rfl ?_
          obtain ⟨r_14, hr_14, hf⟩ := zbd hf
          refine g_get X zf12 hk1 3 (by decide) w_f_RX12_329 rfl (zfv_r hr_14 rfl) dX12_size_117 ?_
          obtain ⟨hk15, hf⟩ := zite hf
          refine g_getN X zf11 hk15 3 (by decide) w_fn_RX12_255 rfl rfl dX12_size_120 ?_
          obtain ⟨rfl, rfl⟩ := zsm hf
          exact g_iret X hr dX12_size_123
        have hf := zneg hs16 hf
        have ehs16 := lv_neT hs16 (a := 3) (by decide)
        by_cases hs19 : x1 = 4
        · have hf := zpos hs19 hf
          refine g_tswIn X 124 dX12_size_38 (by rw [hs19]; decide) (by rw [hs19]; decide) (by rw [hs19]; rfl) (by decide) ?_
          refine g_aload_n X 0 dX12_size_124 rfl ?_
          obtain ⟨r_17, hr_17, hf⟩ := zbd hf
          refine g_get X zf12 hk1 3 (by decide) w_f_RX12_329 rfl (zfv_r hr_17 rfl) dX12_size_125 ?_
          obtain ⟨hk18, hf⟩ := zite hf
          refine g_getN X zf11 hk18 7 (by decide) w_fn_RX12_228 rfl rfl dX12_size_128 ?_
          refine g_if_eq X 138 dX12_size_131 (by decide) (fun hq => ?_) (fun hq => ?_)
          · have hf := zpos hq hf
            refine g_iconst X (v := 0) dX12_size_138 (by decide) ?_
            obtain ⟨rfl, rfl⟩ := zsm hf
            exact g_iret X hr dX12_size_139
          · have hf := zneg hq hf
            refine g_iconst X (v := 1) dX12_size_134 (by decide) ?_
            refine g_goto X 139 dX12_size_135 (by decide) ?_
            obtain ⟨rfl, rfl⟩ := zsm hf
            exact g_iret X hr dX12_size_139
        have hf := zneg hs19 hf
        have ehs19 := lv_neT hs19 (a := 4) (by decide)
        by_cases hs22 : x1 = 5
        · have hf := zpos hs22 hf
          refine g_tswIn X 140 dX12_size_38 (by rw [hs22]; decide) (by rw [hs22]; decide) (by rw [hs22]; rfl) (by decide) ?_
          refine g_aload_n X 0 dX12_size_140 rfl ?_
          obtain ⟨r_20, hr_20, hf⟩ := zbd hf
          refine g_get X zf12 hk1 3 (by decide) w_f_RX12_329 rfl (zfv_r hr_20 rfl) dX12_size_141 ?_
          obtain ⟨hk21, hf⟩ := zite hf
          refine g_getN X zf11 hk21 8 (by decide) w_fn_RX12_245 rfl rfl dX12_size_144 ?_
          refine g_if_eq X 154 dX12_size_147 (by decide) (fun hq => ?_) (fun hq => ?_)
          · have hf := zpos hq hf
            refine g_iconst X (v := 0) dX12_size_154 (by decide) ?_
            obtain ⟨rfl, rfl⟩ := zsm hf
            exact g_iret X hr dX12_size_155
          · have hf := zneg hq hf
            refine g_iconst X (v := 1) dX12_size_150 (by decide) ?_
            refine g_goto X 155 dX12_size_151 (by decide) ?_
            obtain ⟨rfl, rfl⟩ := zsm hf
            exact g_iret X hr dX12_size_155
        have hf := zneg hs22 hf
        have ehs22 := lv_neT hs22 (a := 5) (by decide)
        by_cases hs25 : x1 = 6
        · have hf := zpos hs25 hf
          refine g_tswIn X 156 dX12_size_38 (by rw [hs25]; decide) (by rw [hs25]; decide) (by rw [hs25]; rfl) (by decide) ?_
          refine g_aload_n X 0 dX12_size_156 rfl ?_
          obtain ⟨r_23, hr_23, hf⟩ := zbd hf
          refine g_get X zf12 hk1 3 (by decide) w_f_RX12_329 rfl (zfv_r hr_23 rfl) dX12_size_157 ?_
          obtain ⟨hk24, hf⟩ := zite hf
          refine g_getN X zf11 hk24 9 (by decide) w_fn_RX12_250 rfl rfl dX12_size_160 ?_
          refine g_if_eq X 170 dX12_size_163 (by decide) (fun hq => ?_) (fun hq => ?_)
          · have hf := zpos hq hf
            refine g_iconst X (v := 0) dX12_size_170 (by decide) ?_
            obtain ⟨rfl, rfl⟩ := zsm hf
            exact g_iret X hr dX12_size_171
          · have hf := zneg hq hf
            refine g_iconst X (v := 1) dX12_size_166 (by decide) ?_
            refine g_goto X 171 dX12_size_167 (by decide) ?_
            obtain ⟨rfl, rfl⟩ := zsm hf
            exact g_iret X hr dX12_size_171
        have hf := zneg hs25 hf
        have ehs25 := lv_neT hs25 (a := 6) (by decide)
        by_cases hs28 : x1 = 7
        · have hf := zpos hs28 hf
          refine g_tswIn X 172 dX12_size_38 (by rw [hs28]; decide) (by rw [hs28]; decide) (by rw [hs28]; rfl) (by decide) ?_
          refine g_aload_n X 0 dX12_size_172 rfl ?_
          obtain ⟨r_26, hr_26, hf⟩ := zbd hf
          refine g_get X zf12 hk1 3 (by decide) w_f_RX12_329 rfl (zfv_r hr_26 rfl) dX12_size_173 ?_
          obtain ⟨hk27, hf⟩ := zite hf
          refine g_getN X zf11 hk27 5 (by decide) w_fn_RX12_259 rfl rfl dX12_size_176 ?_
          obtain ⟨rfl, rfl⟩ := zsm hf
          exact g_iret X hr dX12_size_179
        have hf := zneg hs28 hf
        have ehs28 := lv_neT hs28 (a := 7) (by decide)
        by_cases hs29 : x1 = 8
        · have hf := zpos hs29 hf
          refine g_tswIn X 180 dX12_size_38 (by rw [hs29]; decide) (by rw [hs29]; decide) (by rw [hs29]; rfl) (by decide) ?_
          refine g_aload_n X 0 dX12_size_180 rfl ?_
          refine g_get X zf12 hk1 43 (by decide) w_f_RX12_346 rfl rfl dX12_size_181 ?_
          obtain ⟨rfl, rfl⟩ := zsm hf
          exact g_iret X hr dX12_size_184
        have hf := zneg hs29 hf
        have ehs29 := lv_neT hs29 (a := 8) (by decide)
        by_cases hs30 : x1 = 9
        · have hf := zpos hs30 hf
          refine g_tswIn X 185 dX12_size_38 (by rw [hs30]; decide) (by rw [hs30]; decide) (by rw [hs30]; rfl) (by decide) ?_
          refine g_aload_n X 0 dX12_size_185 rfl ?_
          refine g_get X zf12 hk1 45 (by decide) w_f_RX12_331 rfl rfl dX12_size_186 ?_
          obtain ⟨rfl, rfl⟩ := zsm hf
          exact g_iret X hr dX12_size_189
        have hf := zneg hs30 hf
        have ehs30 := lv_neT hs30 (a := 9) (by decide)
        refine g_tswOut X 190 dX12_size_38 (by omega) (by decide) ?_
        refine g_aload_n X 0 dX12_size_190 rfl ?_
        refine g_get X zf12 hk1 44 (by decide) w_f_RX12_334 rfl rfl dX12_size_191 ?_
        obtain ⟨rfl, rfl⟩ := zsm hf
        exact g_iret X hr dX12_size_194
      · have hf := zneg (by rw [hq]; decide) hf
        refine g_iconst X (v := 0) dX12_size_35 (by decide) ?_
        obtain ⟨rfl, rfl⟩ := zsm hf
        exact g_iret X hr dX12_size_36
    · have hf := zpos hq hf
      refine g_iconst X (v := -1) dX12_size_26 (by decide) ?_
      obtain ⟨rfl, rfl⟩ := zsm hf
      exact g_iret X hr dX12_size_27
  · have hf := zpos hq hf
    refine g_aload_n X 0 dX12_size_11 rfl ?_
    refine g_get X zf12 hk1 6 (by decide) w_f_RX12_322 rfl rfl dX12_size_12 ?_
    obtain ⟨rfl, rfl⟩ := zsm hf
    exact g_iret X hr dX12_size_15

set_option maxHeartbeats 4000000 in
set_option maxRecDepth 100000 in
theorem sX12_words {l : Launch} {D : va_G} {cA : Nat → ClassId} {base : Nat} {sA : Nat → Nat} {r0 : Nat} {x1 : Int32} {h hE : Zh} {rE : Int32} (hf : fX12_words r0 x1 h = some (rE, hE)) : zC l yX12_words cX12_words 2 (some .int) 1 21 D cA base sA [.ref (base + r0), .int x1] h (some (.int rE)) hE := by
  refine g_entry RX12 (by decide) rfl (Nat.le_of_ble_eq_true rfl) ?_
  intro p e s m args below meth c X hr
  unfold fX12_words at hf
  have hf := zlet_n (x := h) rfl hf
  show zG p l e { frames := 1, cells := 0, slots := 0, locals := 21 } s m args below meth c (MQ below (zQ D cA base h hE (some (.int rE))) args s 0 0 (zA base)) 2 D cA base h 0 [(0, .ref (base + r0)), (1, .int x1)] [] h
  refine g_aload_n X 0 dX12_words_0 rfl ?_
  refine g_iconst X (v := 0) dX12_words_1 (by decide) ?_
  obtain ⟨hk1, hf⟩ := zite hf
  refine g_putI X zf12 hk1 0 (by decide) w_f_RX12_86 rfl rfl rfl dX12_words_2 ?_
  refine g_hp (fun h2 eh2 => ?_)
  have hf := zlet_n eh2 hf
  refine g_aload_n X 0 dX12_words_5 rfl ?_
  refine g_iload_n X 1 dX12_words_6 rfl ?_
  obtain ⟨v4, h3, hch3, hf⟩ := zc2_e hf
  refine g_callV X 1 (sX12_isRule hch3) zf12 hk1 ydX12_isRule w_ml_RX12_430 w_instanceMethod_X12_isRule w_sel_X12_isRule w_ini_RX12 w_code_X12_isRule (by decide) rfl (st := []) rfl rfl (Nat.le_of_ble_eq_true rfl) dX12_words_7 ?_
  refine g_if_eq X 25 dX12_words_10 (by decide) (fun hq => ?_) (fun hq => ?_)
  · have hf := zpos hq hf
    refine g_iconst X (v := -1) dX12_words_25 (by decide) ?_
    obtain ⟨rfl, rfl⟩ := zsm hf
    exact g_iret X hr dX12_words_26
  · have hf := zneg hq hf
    refine g_aload_n X 0 dX12_words_13 rfl ?_
    obtain ⟨r_5, hr_5, hf⟩ := zbd hf
    refine g_get X zf12 hk1 3 (by decide) w_f_RX12_329 rfl (zfv_r hr_5 rfl) dX12_words_14 ?_
    obtain ⟨hk6, hf⟩ := zite hf
    obtain ⟨r_7, hr_7, hf⟩ := zbd hf
    refine g_getN X zf11 hk6 10 (by decide) w_fn_RX12_283 rfl (zfv_r hr_7 rfl) dX12_words_17 ?_
    refine g_iload_n X 1 dX12_words_20 rfl ?_
    obtain ⟨hk8, hf⟩ := zite hf
    obtain ⟨hi9, hf⟩ := zite hf
    refine g_iald X hk8 hi9 dX12_words_21 ?_
    refine g_goto X 26 dX12_words_22 (by decide) ?_
    obtain ⟨rfl, rfl⟩ := zsm hf
    exact g_iret X hr dX12_words_26

set_option maxHeartbeats 4000000 in
set_option maxRecDepth 100000 in
theorem sX12_trouble {l : Launch} {D : va_G} {cA : Nat → ClassId} {base : Nat} {sA : Nat → Nat} {r0 : Nat} {h hE : Zh} {rE : Int32} (hf : fX12_trouble r0 h = some (rE, hE)) : zC l yX12_trouble cX12_trouble 1 (some .int) 0 0 D cA base sA [.ref (base + r0)] h (some (.int rE)) hE := by
  refine g_entry RX12 (by decide) rfl (Nat.le_of_ble_eq_true rfl) ?_
  intro p e s m args below meth c X hr
  unfold fX12_trouble at hf
  have hf := zlet_n (x := h) rfl hf
  show zG p l e { frames := 0, cells := 0, slots := 0, locals := 0 } s m args below meth c (MQ below (zQ D cA base h hE (some (.int rE))) args s 0 0 (zA base)) 1 D cA base h 0 [(0, .ref (base + r0))] [] h
  refine g_aload_n X 0 dX12_trouble_0 rfl ?_
  refine g_iconst X (v := 0) dX12_trouble_1 (by decide) ?_
  obtain ⟨hk1, hf⟩ := zite hf
  refine g_putI X zf12 hk1 0 (by decide) w_f_RX12_86 rfl rfl rfl dX12_trouble_2 ?_
  refine g_hp (fun h2 eh2 => ?_)
  have hf := zlet_n eh2 hf
  refine g_aload_n X 0 dX12_trouble_5 rfl ?_
  refine g_get X zf12 hk1 1 (by decide) w_f_RX12_89 rfl rfl dX12_trouble_6 ?_
  obtain ⟨rfl, rfl⟩ := zsm hf
  exact g_iret X hr dX12_trouble_9

