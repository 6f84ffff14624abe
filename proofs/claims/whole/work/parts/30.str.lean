/-! String constants -/
def fJ0_length_8abf5 (s0 : Nat) (h : Zh) : Option (Int32 × Zh) := if s0 < ztxt.length then some (Int32.ofNat (ztxt.getD s0 []).length, h) else none
def fJ0_charAt_5068e (s0 : Nat) (x1 : Int32) (h : Zh) : Option (Int32 × Zh) := if s0 < ztxt.length then (if zin x1 (ztxt.getD s0 []).length then some ((ztxt.getD s0 []).getD x1.toNatClampNeg 0, h) else none) else none
theorem zgetD_mem {t : List Int32} {k : Nat} (hk : k < t.length) : t.getD k 0 ∈ t := by rw [List.getD_eq_getElem?_getD, List.getElem?_eq_getElem hk]; exact List.getElem_mem hk
theorem ztxt_ok : ∀ t ∈ ztxt, t.length < 2 ^ 31 ∧ ∀ b ∈ t, ((b &&& 255).toUInt32 % 65536).toInt32 = b ∧ narrow .char (.int b) = .int b := by decide +kernel
theorem dJ0_coder_7d493_0 : decode cJ0_coder_7d493 0 = .ok (.getstatic 38, 3) := by decide +kernel
theorem dJ0_coder_7d493_3 : decode cJ0_coder_7d493 3 = .ok (.ifCond .eq 10, 3) := by decide +kernel
theorem dJ0_coder_7d493_6 : decode cJ0_coder_7d493 6 = .ok (.aload_n 0, 1) := by decide +kernel
theorem dJ0_coder_7d493_7 : decode cJ0_coder_7d493 7 = .ok (.getfield 15, 3) := by decide +kernel
theorem dJ0_coder_7d493_10 : decode cJ0_coder_7d493 10 = .ok (.goto 4, 3) := by decide +kernel
theorem dJ0_coder_7d493_13 : decode cJ0_coder_7d493 13 = .ok (.iconst 1, 1) := by decide +kernel
theorem dJ0_coder_7d493_14 : decode cJ0_coder_7d493 14 = .ok (.ireturn, 1) := by decide +kernel
theorem dJ0_length_8abf5_0 : decode cJ0_length_8abf5 0 = .ok (.aload_n 0, 1) := by decide +kernel
theorem dJ0_length_8abf5_1 : decode cJ0_length_8abf5 1 = .ok (.getfield 9, 3) := by decide +kernel
theorem dJ0_length_8abf5_4 : decode cJ0_length_8abf5 4 = .ok (.arraylength, 1) := by decide +kernel
theorem dJ0_length_8abf5_5 : decode cJ0_length_8abf5 5 = .ok (.aload_n 0, 1) := by decide +kernel
theorem dJ0_length_8abf5_6 : decode cJ0_length_8abf5 6 = .ok (.invokevirtual 335, 3) := by decide +kernel
theorem dJ0_length_8abf5_9 : decode cJ0_length_8abf5 9 = .ok (.ishr, 1) := by decide +kernel
theorem dJ0_length_8abf5_10 : decode cJ0_length_8abf5 10 = .ok (.ireturn, 1) := by decide +kernel
theorem dJ0_isLatin1_aae02_0 : decode cJ0_isLatin1_aae02 0 = .ok (.getstatic 38, 3) := by decide +kernel
theorem dJ0_isLatin1_aae02_3 : decode cJ0_isLatin1_aae02 3 = .ok (.ifCond .eq 14, 3) := by decide +kernel
theorem dJ0_isLatin1_aae02_6 : decode cJ0_isLatin1_aae02 6 = .ok (.aload_n 0, 1) := by decide +kernel
theorem dJ0_isLatin1_aae02_7 : decode cJ0_isLatin1_aae02 7 = .ok (.getfield 15, 3) := by decide +kernel
theorem dJ0_isLatin1_aae02_10 : decode cJ0_isLatin1_aae02 10 = .ok (.ifCond .ne 7, 3) := by decide +kernel
theorem dJ0_isLatin1_aae02_13 : decode cJ0_isLatin1_aae02 13 = .ok (.iconst 1, 1) := by decide +kernel
theorem dJ0_isLatin1_aae02_14 : decode cJ0_isLatin1_aae02 14 = .ok (.goto 4, 3) := by decide +kernel
theorem dJ0_isLatin1_aae02_17 : decode cJ0_isLatin1_aae02 17 = .ok (.iconst 0, 1) := by decide +kernel
theorem dJ0_isLatin1_aae02_18 : decode cJ0_isLatin1_aae02 18 = .ok (.ireturn, 1) := by decide +kernel
theorem dJ3_checkIndex_8e157_0 : decode cJ3_checkIndex_8e157 0 = .ok (.iload_n 0, 1) := by decide +kernel
theorem dJ3_checkIndex_8e157_1 : decode cJ3_checkIndex_8e157 1 = .ok (.ifCond .lt 8, 3) := by decide +kernel
theorem dJ3_checkIndex_8e157_4 : decode cJ3_checkIndex_8e157 4 = .ok (.iload_n 0, 1) := by decide +kernel
theorem dJ3_checkIndex_8e157_5 : decode cJ3_checkIndex_8e157 5 = .ok (.iload_n 1, 1) := by decide +kernel
theorem dJ3_checkIndex_8e157_6 : decode cJ3_checkIndex_8e157 6 = .ok (.if_icmp .lt 10, 3) := by decide +kernel
theorem dJ3_checkIndex_8e157_9 : decode cJ3_checkIndex_8e157 9 = .ok (.aload_n 2, 1) := by decide +kernel
theorem dJ3_checkIndex_8e157_10 : decode cJ3_checkIndex_8e157 10 = .ok (.iload_n 0, 1) := by decide +kernel
theorem dJ3_checkIndex_8e157_11 : decode cJ3_checkIndex_8e157 11 = .ok (.iload_n 1, 1) := by decide +kernel
theorem dJ3_checkIndex_8e157_12 : decode cJ3_checkIndex_8e157 12 = .ok (.invokestatic 95, 3) := by decide +kernel
theorem dJ3_checkIndex_8e157_15 : decode cJ3_checkIndex_8e157 15 = .ok (.athrow, 1) := by decide +kernel
theorem dJ3_checkIndex_8e157_16 : decode cJ3_checkIndex_8e157 16 = .ok (.iload_n 0, 1) := by decide +kernel
theorem dJ3_checkIndex_8e157_17 : decode cJ3_checkIndex_8e157 17 = .ok (.ireturn, 1) := by decide +kernel
theorem dJ0_checkIndex_df160_0 : decode cJ0_checkIndex_df160 0 = .ok (.iload_n 0, 1) := by decide +kernel
theorem dJ0_checkIndex_df160_1 : decode cJ0_checkIndex_df160 1 = .ok (.iload_n 1, 1) := by decide +kernel
theorem dJ0_checkIndex_df160_2 : decode cJ0_checkIndex_df160 2 = .ok (.getstatic 1053, 3) := by decide +kernel
theorem dJ0_checkIndex_df160_5 : decode cJ0_checkIndex_df160 5 = .ok (.invokestatic 1059, 3) := by decide +kernel
theorem dJ0_checkIndex_df160_8 : decode cJ0_checkIndex_df160 8 = .ok (.pop, 1) := by decide +kernel
theorem dJ0_checkIndex_df160_9 : decode cJ0_checkIndex_df160 9 = .ok (.return_, 1) := by decide +kernel
theorem dJ1_charAt_3b067_0 : decode cJ1_charAt_3b067 0 = .ok (.iload_n 1, 1) := by decide +kernel
theorem dJ1_charAt_3b067_1 : decode cJ1_charAt_3b067 1 = .ok (.aload_n 0, 1) := by decide +kernel
theorem dJ1_charAt_3b067_2 : decode cJ1_charAt_3b067 2 = .ok (.arraylength, 1) := by decide +kernel
theorem dJ1_charAt_3b067_3 : decode cJ1_charAt_3b067 3 = .ok (.invokestatic 9, 3) := by decide +kernel
theorem dJ1_charAt_3b067_6 : decode cJ1_charAt_3b067 6 = .ok (.aload_n 0, 1) := by decide +kernel
theorem dJ1_charAt_3b067_7 : decode cJ1_charAt_3b067 7 = .ok (.iload_n 1, 1) := by decide +kernel
theorem dJ1_charAt_3b067_8 : decode cJ1_charAt_3b067 8 = .ok (.baload, 1) := by decide +kernel
theorem dJ1_charAt_3b067_9 : decode cJ1_charAt_3b067 9 = .ok (.sipush 255, 3) := by decide +kernel
theorem dJ1_charAt_3b067_12 : decode cJ1_charAt_3b067 12 = .ok (.iand, 1) := by decide +kernel
theorem dJ1_charAt_3b067_13 : decode cJ1_charAt_3b067 13 = .ok (.i2c, 1) := by decide +kernel
theorem dJ1_charAt_3b067_14 : decode cJ1_charAt_3b067 14 = .ok (.ireturn, 1) := by decide +kernel
theorem dJ0_charAt_5068e_0 : decode cJ0_charAt_5068e 0 = .ok (.aload_n 0, 1) := by decide +kernel
theorem dJ0_charAt_5068e_1 : decode cJ0_charAt_5068e 1 = .ok (.invokevirtual 492, 3) := by decide +kernel
theorem dJ0_charAt_5068e_4 : decode cJ0_charAt_5068e 4 = .ok (.ifCond .eq 12, 3) := by decide +kernel
theorem dJ0_charAt_5068e_7 : decode cJ0_charAt_5068e 7 = .ok (.aload_n 0, 1) := by decide +kernel
theorem dJ0_charAt_5068e_8 : decode cJ0_charAt_5068e 8 = .ok (.getfield 9, 3) := by decide +kernel
theorem dJ0_charAt_5068e_11 : decode cJ0_charAt_5068e 11 = .ok (.iload_n 1, 1) := by decide +kernel
theorem dJ0_charAt_5068e_12 : decode cJ0_charAt_5068e 12 = .ok (.invokestatic 495, 3) := by decide +kernel
theorem dJ0_charAt_5068e_15 : decode cJ0_charAt_5068e 15 = .ok (.ireturn, 1) := by decide +kernel
theorem dJ0_charAt_5068e_16 : decode cJ0_charAt_5068e 16 = .ok (.aload_n 0, 1) := by decide +kernel
theorem dJ0_charAt_5068e_17 : decode cJ0_charAt_5068e 17 = .ok (.getfield 9, 3) := by decide +kernel
theorem dJ0_charAt_5068e_20 : decode cJ0_charAt_5068e 20 = .ok (.iload_n 1, 1) := by decide +kernel
theorem dJ0_charAt_5068e_21 : decode cJ0_charAt_5068e 21 = .ok (.invokestatic 498, 3) := by decide +kernel
theorem dJ0_charAt_5068e_24 : decode cJ0_charAt_5068e 24 = .ok (.ireturn, 1) := by decide +kernel
theorem sJ0_coder_7d493 {l : Launch} {D : va_G} {cA : Nat → ClassId} {base : Nat} {sA : Nat → Nat} {i : Nat} {h : Zh} (hi : i < ztxt.length) : zC l yJ0_coder_7d493 cJ0_coder_7d493 1 (some .byte) 0 0 D cA base sA [.ref (sA i)] h (some (.int 0)) h := by
  refine g_entry RJ0 (by decide) rfl (Nat.le_of_ble_eq_true rfl) ?_
  intro p e s m args below meth c X hr z H locs ls hW hS hl
  obtain ⟨s1, s2, s3, s4⟩ := X.2.2.2.2.2.2.2.2.2.2.2.1 i hi
  have hl : lv_has ls 1 [(0, .ref (sA i))] := hl
  refine va_gets X.1 X.2.1 X.2.2.2.2.2.2.2.2.2.2.2.2.1 hS X.2.2.2.1 (X.2.2.2.2.1 _ w_f_RJ0_38) (fun x hx => hx) dJ0_coder_7d493_0 ?_
  refine lv_if_eq (tgt := 13) X.1 X.2.1 dJ0_coder_7d493_3 (by decide) (fun hc => absurd hc (by decide)) (fun _ => ?_)
  refine lv_aload_n X.1 X.2.1 dJ0_coder_7d493_6 rfl (lv_at hl 0 rfl) ?_
  refine vk_getf X.1 X.2.1 s2 hS X.2.2.2.1 (X.2.2.2.2.1 _ w_f_RJ0_15) (fun x hx => hx) dJ0_coder_7d493_7 ?_
  refine lv_goto (tgt := 14) X.1 X.2.1 dJ0_coder_7d493_10 (by decide) ?_
  exact W.zret (ty := .byte) X.1 X.2.1 hr rfl (fun t ht hWt => ⟨rfl, by rw [ht]; exact hW, hS.F ht, z⟩) hS.2.2 dJ0_coder_7d493_14 X.2.2.2.2.2.1
theorem sJ0_isLatin1_aae02 {l : Launch} {D : va_G} {cA : Nat → ClassId} {base : Nat} {sA : Nat → Nat} {i : Nat} {h : Zh} (hi : i < ztxt.length) : zC l yJ0_isLatin1_aae02 cJ0_isLatin1_aae02 1 (some .boolean) 0 0 D cA base sA [.ref (sA i)] h (some (.int 1)) h := by
  refine g_entry RJ0 (by decide) rfl (Nat.le_of_ble_eq_true rfl) ?_
  intro p e s m args below meth c X hr z H locs ls hW hS hl
  obtain ⟨s1, s2, s3, s4⟩ := X.2.2.2.2.2.2.2.2.2.2.2.1 i hi
  have hl : lv_has ls 1 [(0, .ref (sA i))] := hl
  refine va_gets X.1 X.2.1 X.2.2.2.2.2.2.2.2.2.2.2.2.1 hS X.2.2.2.1 (X.2.2.2.2.1 _ w_f_RJ0_38) (fun x hx => hx) dJ0_isLatin1_aae02_0 ?_
  refine lv_if_eq (tgt := 17) X.1 X.2.1 dJ0_isLatin1_aae02_3 (by decide) (fun hc => absurd hc (by decide)) (fun _ => ?_)
  refine lv_aload_n X.1 X.2.1 dJ0_isLatin1_aae02_6 rfl (lv_at hl 0 rfl) ?_
  refine vk_getf X.1 X.2.1 s2 hS X.2.2.2.1 (X.2.2.2.2.1 _ w_f_RJ0_15) (fun x hx => hx) dJ0_isLatin1_aae02_7 ?_
  refine lv_if_ne (tgt := 17) X.1 X.2.1 dJ0_isLatin1_aae02_10 (by decide) (fun hc => absurd rfl hc) (fun _ => ?_)
  refine lv_iconst (v := 1) X.1 X.2.1 dJ0_isLatin1_aae02_13 (by decide) ?_
  refine lv_goto (tgt := 18) X.1 X.2.1 dJ0_isLatin1_aae02_14 (by decide) ?_
  exact W.zret (ty := .boolean) X.1 X.2.1 hr rfl (fun t ht hWt => ⟨rfl, by rw [ht]; exact hW, hS.F ht, z⟩) hS.2.2 dJ0_isLatin1_aae02_18 X.2.2.2.2.2.1
theorem sJ0_length_8abf5 {l : Launch} {D : va_G} {cA : Nat → ClassId} {base : Nat} {sA : Nat → Nat} {s0 : Nat} {h hE : Zh} {rE : Int32} (hf : fJ0_length_8abf5 s0 h = some (rE, hE)) : zC l yJ0_length_8abf5 cJ0_length_8abf5 1 (some .int) 1 20 D cA base sA [.ref (sA s0)] h (some (.int rE)) hE := by
  unfold fJ0_length_8abf5 at hf
  obtain ⟨hi, hf⟩ := zite hf
  obtain ⟨rfl, rfl⟩ := zsm hf
  refine g_entry RJ0 (by decide) rfl (Nat.le_of_ble_eq_true rfl) ?_
  intro p e s m args below meth c X hr z H locs ls hW hS hl
  obtain ⟨s1, s2, s3, s4⟩ := X.2.2.2.2.2.2.2.2.2.2.2.1 s0 hi
  have hl : lv_has ls 1 [(0, .ref (sA s0))] := hl
  refine lv_aload_n X.1 X.2.1 dJ0_length_8abf5_0 rfl (lv_at hl 0 rfl) ?_
  refine vk_getf X.1 X.2.1 s3 hS X.2.2.2.1 (X.2.2.2.2.1 _ w_f_RJ0_9) (fun x hx => hx) dJ0_length_8abf5_1 ?_
  refine va_tlen X.1 X.2.1 s4 hS rfl dJ0_length_8abf5_4 ?_
  refine lv_aload_n X.1 X.2.1 dJ0_length_8abf5_5 rfl (lv_at hl 0 rfl) ?_
  refine g_callK (lo := [(0, .ref (sA s0))]) X 0 hi (sJ0_coder_7d493 hi) ydJ0_coder_7d493 w_ml_RJ0_335 w_instanceMethod_J0_coder_7d493 w_sel_J0_coder_7d493 w_ini_RJ0 w_code_J0_coder_7d493 (by decide) rfl (st := [.int (Int32.ofNat (ztxt.getD s0 []).length)]) rfl rfl (Nat.le_of_ble_eq_true rfl) dJ0_length_8abf5_6 ?_ z H locs ls hW hS hl
  refine g_ishr X dJ0_length_8abf5_9 ?_
  rw [sb_shr0]
  exact g_iret X hr dJ0_length_8abf5_10
theorem sJ3_checkIndex_8e157 {l : Launch} {D : va_G} {cA : Nat → ClassId} {base : Nat} {sA : Nat → Nat} {x0 x1 : Int32} {v : Value} {h : Zh} (hv : v.category = 1) (h1 : ¬ x0 < 0) (h2 : x0 < x1) : zC l yJ3_checkIndex_8e157 cJ3_checkIndex_8e157 3 (some .int) 0 0 D cA base sA [.int x0, .int x1, v] h (some (.int x0)) h := by
  refine g_entry RJ3 (by decide) rfl (by have e1 : (Value.int x0).category = 1 := rfl; have e2 : (Value.int x1).category = 1 := rfl; simp [lg_sl, hv, e1, e2]) ?_
  intro p e s m args below meth c X hr z H locs ls hW hS hl
  have hl : lv_has ls 3 [(0, .int x0), (1, .int x1), (2, v)] := hl
  refine lv_iload_n X.1 X.2.1 dJ3_checkIndex_8e157_0 rfl (lv_at hl 0 rfl) ?_
  refine lv_if_lt (tgt := 9) X.1 X.2.1 dJ3_checkIndex_8e157_1 (by decide) (fun hc => absurd hc h1) (fun _ => ?_)
  refine lv_iload_n X.1 X.2.1 dJ3_checkIndex_8e157_4 rfl (lv_at hl 0 rfl) ?_
  refine lv_iload_n X.1 X.2.1 dJ3_checkIndex_8e157_5 rfl (lv_at hl 1 rfl) ?_
  refine lv_icmp_lt (tgt := 16) X.1 X.2.1 dJ3_checkIndex_8e157_6 (by decide) (fun _ => ?_) (fun hc => absurd h2 hc)
  refine lv_iload_n X.1 X.2.1 dJ3_checkIndex_8e157_16 rfl (lv_at hl 0 rfl) ?_
  exact W.iret X.1 X.2.1 hr (fun t ht hWt => ⟨rfl, by rw [ht]; exact hW, hS.F ht, z⟩) hS.2.2 dJ3_checkIndex_8e157_17 X.2.2.2.2.2.1
theorem sJ0_checkIndex_df160 {l : Launch} {D : va_G} {cA : Nat → ClassId} {base : Nat} {sA : Nat → Nat} {x0 x1 : Int32} {h : Zh} (h1 : ¬ x0 < 0) (h2 : x0 < x1) : zC l yJ0_checkIndex_df160 cJ0_checkIndex_df160 2 none 1 22 D cA base sA [.int x0, .int x1] h none h := by
  refine g_entry RJ0 (by decide) rfl (Nat.le_of_ble_eq_true rfl) ?_
  intro p e s m args below meth c X hr z H locs ls hW hS hl
  have hl : lv_has ls 2 [(0, .int x0), (1, .int x1)] := hl
  refine lv_iload_n X.1 X.2.1 dJ0_checkIndex_df160_0 rfl (lv_at hl 0 rfl) ?_
  refine lv_iload_n X.1 X.2.1 dJ0_checkIndex_df160_1 rfl (lv_at hl 1 rfl) ?_
  have key : ∀ v : Value, v.category = 1 → va_Z "jdk/internal/util/Preconditions" "SIOOBE_FORMATTER" "Ljava/util/function/BiFunction;" v (zA base) s s.heap → W p l e { frames := 1, cells := 0, slots := 0, locals := 22 } s m args below meth c H locs 0 0 (MQ below (zQ D cA base h h none) args s 0 0 (zA base)) (F0 m 2 ls [.int x1, .int x0]) := by
    intro v hv hZ
    refine va_gets X.1 X.2.1 hZ hS X.2.2.2.1 (X.2.2.2.2.1 _ w_f_RJ0_1053) (fun x hx => hx) dJ0_checkIndex_df160_2 ?_
    refine g_callS (lo := [(0, .int x0), (1, .int x1)]) X 3 (sJ3_checkIndex_8e157 hv h1 h2) ysJ3_checkIndex_8e157 w_ml_RJ0_1059 w_static_J3_checkIndex_8e157 w_ini_RJ3 w_code_J3_checkIndex_8e157 (by decide) rfl (st := []) rfl rfl (Nat.le_of_ble_eq_true rfl) dJ0_checkIndex_df160_5 ?_ z H locs ls hW hS hl
    refine g_pop X dJ0_checkIndex_df160_8 rfl ?_
    exact g_vret X hr dJ0_checkIndex_df160_9
  rcases X.2.2.2.2.2.2.2.2.2.2.2.2.2 with hZ | ⟨t, hZ⟩
  · exact key _ rfl hZ
  · exact key _ rfl hZ
theorem sJ1_charAt_3b067 {l : Launch} {D : va_G} {cA : Nat → ClassId} {base : Nat} {sA : Nat → Nat} {i : Nat} {x1 b : Int32} {h : Zh} (hi : i < ztxt.length) (hin : zin x1 (ztxt.getD i []).length) (hb : (ztxt.getD i []).getD x1.toNatClampNeg 0 = b) : zC l yJ1_charAt_3b067 cJ1_charAt_3b067 2 (some .char) 2 43 D cA base sA [.ref (sA (1000 + i)), .int x1] h (some (.int b)) h := by
  have hmem : ztxt.getD i [] ∈ ztxt := by rw [List.getD_eq_getElem?_getD, List.getElem?_eq_getElem hi]; exact List.getElem_mem hi
  obtain ⟨t1, t2⟩ := ztxt_ok _ hmem
  have hlt : x1.toNatClampNeg < (ztxt.getD i []).length := by have : x1.toNatClampNeg = x1.toInt.toNat := rfl; omega
  have hbm : b ∈ ztxt.getD i [] := by rw [← hb]; exact zgetD_mem hlt
  obtain ⟨t3, t4⟩ := t2 b hbm
  have n1 : ¬ x1 < 0 := fun q => by have := Int32.lt_iff_toInt_lt.mp q; simp at this; omega
  have n2 : x1 < Int32.ofNat (ztxt.getD i []).length := by
    rw [Int32.lt_iff_toInt_lt, show (Int32.ofNat (ztxt.getD i []).length).toInt = ((ztxt.getD i []).length : Int) from nI_toInt t1]
    exact hin.2
  refine g_entry RJ1 (by decide) rfl (Nat.le_of_ble_eq_true rfl) ?_
  intro p e s m args below meth c X hr z H locs ls hW hS hl
  obtain ⟨s1, s2, s3, s4⟩ := X.2.2.2.2.2.2.2.2.2.2.2.1 i hi
  have hl : lv_has ls 2 [(0, .ref (sA (1000 + i))), (1, .int x1)] := hl
  refine lv_iload_n X.1 X.2.1 dJ1_charAt_3b067_0 rfl (lv_at hl 1 rfl) ?_
  refine lv_aload_n X.1 X.2.1 dJ1_charAt_3b067_1 rfl (lv_at hl 0 rfl) ?_
  refine va_tlen X.1 X.2.1 s4 hS rfl dJ1_charAt_3b067_2 ?_
  refine g_callS (lo := [(0, .ref (sA (1000 + i))), (1, .int x1)]) X 2 (sJ0_checkIndex_df160 n1 n2) ysJ0_checkIndex_df160 w_ml_RJ1_9 w_static_J0_checkIndex_df160 w_ini_RJ0 w_code_J0_checkIndex_df160 (by decide) rfl (st := []) rfl rfl (Nat.le_of_ble_eq_true rfl) dJ1_charAt_3b067_3 ?_ z H locs ls hW hS hl
  intro z H locs ls hW hS hl
  refine lv_aload_n X.1 X.2.1 dJ1_charAt_3b067_6 rfl (lv_at hl 0 rfl) ?_
  refine lv_iload_n X.1 X.2.1 dJ1_charAt_3b067_7 rfl (lv_at hl 1 rfl) ?_
  refine va_tb X.1 X.2.1 s4 hS (vp_in_iff.mpr hin) (v := .int b) (by rw [hb]) dJ1_charAt_3b067_8 ?_
  refine lv_sipush (v := 255) X.1 X.2.1 dJ1_charAt_3b067_9 (by decide) ?_
  refine lv_iand X.1 X.2.1 dJ1_charAt_3b067_12 ?_
  refine lv_i2c X.1 X.2.1 (v := b) dJ1_charAt_3b067_13 t3 ?_
  exact W.zret (ty := .char) X.1 X.2.1 hr t4 (fun t ht hWt => ⟨rfl, by rw [ht]; exact hW, hS.F ht, z⟩) hS.2.2 dJ1_charAt_3b067_14 X.2.2.2.2.2.1
theorem sJ0_charAt_5068e {l : Launch} {D : va_G} {cA : Nat → ClassId} {base : Nat} {sA : Nat → Nat} {s0 : Nat} {x1 : Int32} {h hE : Zh} {rE : Int32} (hf : fJ0_charAt_5068e s0 x1 h = some (rE, hE)) : zC l yJ0_charAt_5068e cJ0_charAt_5068e 2 (some .char) 3 64 D cA base sA [.ref (sA s0), .int x1] h (some (.int rE)) hE := by
  unfold fJ0_charAt_5068e at hf
  obtain ⟨hi, hf⟩ := zite hf
  obtain ⟨hin, hf⟩ := zite hf
  obtain ⟨hb, rfl⟩ := zsm hf
  have hmem : ztxt.getD s0 [] ∈ ztxt := by rw [List.getD_eq_getElem?_getD, List.getElem?_eq_getElem hi]; exact List.getElem_mem hi
  have hlt : x1.toNatClampNeg < (ztxt.getD s0 []).length := by have : x1.toNatClampNeg = x1.toInt.toNat := rfl; omega
  have hbm : rE ∈ ztxt.getD s0 [] := by rw [← hb]; exact zgetD_mem hlt
  have t4 := ((ztxt_ok _ hmem).2 rE hbm).2
  refine g_entry RJ0 (by decide) rfl (Nat.le_of_ble_eq_true rfl) ?_
  intro p e s m args below meth c X hr
  show zG _ _ _ _ _ _ _ _ _ _ _ _ _ _ _ _ _ [(0, .ref (sA s0)), (1, .int x1)] _ _
  refine g_aload_n X 0 dJ0_charAt_5068e_0 rfl ?_
  refine g_callK X 0 hi (sJ0_isLatin1_aae02 hi) ydJ0_isLatin1_aae02 w_ml_RJ0_492 w_instanceMethod_J0_isLatin1_aae02 w_sel_J0_isLatin1_aae02 w_ini_RJ0 w_code_J0_isLatin1_aae02 (by decide) rfl (st := []) rfl rfl (Nat.le_of_ble_eq_true rfl) dJ0_charAt_5068e_1 ?_
  refine g_if_eq X 16 dJ0_charAt_5068e_4 (by decide) (fun hc => absurd hc (by decide)) (fun _ => ?_)
  refine g_aload_n X 0 dJ0_charAt_5068e_7 rfl ?_
  intro z H locs ls hW hS hl
  obtain ⟨s1, s2, s3, s4⟩ := X.2.2.2.2.2.2.2.2.2.2.2.1 s0 hi
  refine vk_getf X.1 X.2.1 s3 hS X.2.2.2.1 (X.2.2.2.2.1 _ w_f_RJ0_9) (fun x hx => hx) dJ0_charAt_5068e_8 ?_
  refine lv_iload_n X.1 X.2.1 dJ0_charAt_5068e_11 rfl (lv_at hl 1 rfl) ?_
  refine g_callS (lo := [(0, .ref (sA s0)), (1, .int x1)]) X 2 (sJ1_charAt_3b067 hi hin hb) ysJ1_charAt_3b067 w_ml_RJ0_495 w_static_J1_charAt_3b067 w_ini_RJ1 w_code_J1_charAt_3b067 (by decide) rfl (st := []) rfl rfl (Nat.le_of_ble_eq_true rfl) dJ0_charAt_5068e_12 ?_ z H locs ls hW hS hl
  intro z H locs ls hW hS hl
  exact W.zret (ty := .char) X.1 X.2.1 hr t4 (fun t ht hWt => ⟨rfl, by rw [ht]; exact hW, hS.F ht, z⟩) hS.2.2 dJ0_charAt_5068e_15 X.2.2.2.2.2.1
