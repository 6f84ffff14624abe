/-! the class's reader: a rule's line -/
theorem alb_z {P : Nat → Bool} {n : Nat} : alb (fun i => !P i) n = !decide (zfst P n < n) := by
  by_cases c : zfst P n < n
  · rw [decide_eq_true c]
    have h := zfst_at c
    cases e : alb (fun i => !P i) n
    · rfl
    · have := (alb_t n).mp e _ c
      rw [h] at this
      cases this
  · rw [decide_eq_false c]
    have e : zfst P n = n := by have := zfst_le P n; omega
    exact (alb_t n).mpr fun i hi => by rw [zfst_before (P := P) (n := n) (by rw [e]; exact hi)]; rfl
theorem agn_z {tx : Nat → Int} {n : Nat} {S : PS} {p : Nat} : agn tx n S p = decide (zfst (fun i => sam tx n p (Pnm S i)) (Prc S) < Prc S) := by
  unfold agn
  rw [alb_z, Bool.not_not]
theorem isNameOf_b {h : Zh} {tx : Nat → Int} {n p a b l i j : Nat} (q : RD h tx n p) (hi : i < 4) (ha : a + l ≤ n) (hb : b + l ≤ n) (r9 : zI h 2 9 = iI a) (c10 : zI h 10 i = iI b) (c11 : zI h 11 i = iI l) (hj : j < l) : bX7_isNameOf_22 h 2 (iI i) (iI j) h = if tx (a + j) = tx (b + j) then some (0, (iI ((j + 1 : Nat) : Int), h)) else some (1, (iI j, h)) := by
  have s := q.1
  obtain ⟨hn, h3, r2, ht⟩ := q.2.1.2.1
  obtain ⟨t1, t2, t3⟩ := ht (a + j) (by omega)
  obtain ⟨u1, u2, u3⟩ := ht (b + j) (by omega)
  have e1 : (a : Int) + (j : Int) = ((a + j : Nat) : Int) := by omega
  have e2 : (b : Int) + (j : Int) = ((b + j : Nat) : Int) := by omega
  have e3 : (j : Int) + 1 = ((j + 1 : Nat) : Int) := by omega
  unfold bX7_isNameOf_22
  by_cases c : tx (a + j) = tx (b + j)
  · rw [if_pos c]
    simp (maxSteps := 1000000) (disch := (first | assumption | exact ne_b rfl | omega)) only [↓reduceIte, ↓zlet_eq, ↓bdR_sI, ↓bdR_sJ, ↓bdR_aI, zc2_some, Option.bind_some, ↓si_m1, ↓si_m2, ↓si_m3, iI_lit, iI_add, iI_sub, iI_mul, leT, leF, ltT, ltF, eqT, eqF, zinT, clI, Int.toNat_natCast, Int.reduceToNat, tN1, tNa, tN0, tNm, if_pos, if_neg, zI_sI, zI_sJ, zI_sR, zJ_sI, zJ_sJ, zJ_sR, zR_sI, zR_sJ, zR_sR, zK_sI, zK_sJ, zK_sR, zL_sI, zL_sJ, zL_sR, zI_aI, zJ_aI, zR_aI, zK_aI, zL_aI, z2_at, z2_a, z2_k, z1_self, z1_ne, true_and, and_true, bIt, bIf, Bool.false_eq_true, Bool.true_eq_false, eq_self, not_true_eq_false, not_false_eq_true, sK0, sK1, sK2, sK3, sK4, sK5, sK6, sK7, sK8, sK9, sK10, sK11, sK12, sK13, sK14, sK15, sK16, sK17, sK18, sK19, sK20, sK21, sK22, sK23, sK24, sK25, sK26, sK27, sK28, sK29, sK30, sK31, sK32, sK33, sK34, sK35, sK36, sK37, sK38, sK39, sK40, sK41, sK42, sK43, sK44, sK45, sK46, sK47, sK48, sK49, sK50, sK51, sK52, sK53, sK54, sK55, sK56, sK57, sK58, sK59, sK60, sK61, sK62, sK63, sK64, sK65, sK66, sK67, sK68, sK69, sK70, sK71, sK72, sK73, sK74, sK75, sL1, sL3, sL6, sL8, sL9, sL10, sL11, sL12, sL15, sL17, sL18, sL21, sL23, sL24, sL26, sL29, sL31, sL32, sL34, sL36, sL37, sL39, sL40, sL41, sL43, sL45, sL46, sL47, sL48, sL49, sL50, sL51, sL52, sL53, sL55, sL57, sL59, sL61, sL62, sL63, sL64, sL65, sL67, sL68, sL70, sL71, sL73, sL74, sL75, sR0_0, sR0_2, sR0_5, sR0_6, sR0_11, sR2_5, sR2_6, sR2_7, sR4_1, sR4_2, sR4_4, sR7_0, sR7_1, sR13_1, sR13_2, sR13_4, sR16_0, sR16_1, sR19_1, sR19_2, sR19_4, sR22_0, sR22_1, sR25_0, sR25_2, sR25_3, sR25_4, sR25_5, sR25_6, sR25_7, sR25_8, sR25_10, sR27_1, sR27_2, sR27_4, sR30_0, sR30_1, sR33_0, sR35_0, sR35_1, sR38_0, sR38_1, sR38_2, sR42_0, sR42_5, sR42_7, sR42_11, sR42_12, sR42_13, sR53_0, sR53_1, sR53_2, sR53_3, sR54_1, sR56_1, sR58_1, sR60_1, sR65_0, sR65_1, sR65_2, sR66_0, sR66_1, sR69_0, sR69_1, sR72_0, sR72_1, ↓sB0_0, ↓sB0_2, ↓sB0_5, ↓sB0_6, ↓sB0_11, ↓sB2_5, ↓sB2_6, ↓sB2_7, ↓sB4_1, ↓sB4_2, ↓sB4_4, ↓sB7_0, ↓sB7_1, ↓sB13_1, ↓sB13_2, ↓sB13_4, ↓sB16_0, ↓sB16_1, ↓sB19_1, ↓sB19_2, ↓sB19_4, ↓sB22_0, ↓sB22_1, ↓sB25_0, ↓sB25_2, ↓sB25_3, ↓sB25_4, ↓sB25_5, ↓sB25_6, ↓sB25_7, ↓sB25_8, ↓sB25_10, ↓sB27_1, ↓sB27_2, ↓sB27_4, ↓sB30_0, ↓sB30_1, ↓sB33_0, ↓sB35_0, ↓sB35_1, ↓sB38_0, ↓sB38_1, ↓sB38_2, ↓sB42_0, ↓sB42_5, ↓sB42_7, ↓sB42_11, ↓sB42_12, ↓sB42_13, ↓sB53_0, ↓sB53_1, ↓sB53_2, ↓sB53_3, ↓sB54_1, ↓sB56_1, ↓sB58_1, ↓sB60_1, ↓sB65_0, ↓sB65_1, ↓sB65_2, ↓sB66_0, ↓sB66_1, ↓sB69_0, ↓sB69_1, ↓sB72_0, ↓sB72_1, c10, c11, r9, ↓bd_of r2, e1, e2, e3, t1, u1]
  · rw [if_neg c]
    simp (maxSteps := 1000000) (disch := (first | assumption | exact ne_b rfl | omega)) only [↓reduceIte, ↓zlet_eq, ↓bdR_sI, ↓bdR_sJ, ↓bdR_aI, zc2_some, Option.bind_some, ↓si_m1, ↓si_m2, ↓si_m3, iI_lit, iI_add, iI_sub, iI_mul, leT, leF, ltT, ltF, eqT, eqF, zinT, clI, Int.toNat_natCast, Int.reduceToNat, tN1, tNa, tN0, tNm, if_pos, if_neg, zI_sI, zI_sJ, zI_sR, zJ_sI, zJ_sJ, zJ_sR, zR_sI, zR_sJ, zR_sR, zK_sI, zK_sJ, zK_sR, zL_sI, zL_sJ, zL_sR, zI_aI, zJ_aI, zR_aI, zK_aI, zL_aI, z2_at, z2_a, z2_k, z1_self, z1_ne, true_and, and_true, bIt, bIf, Bool.false_eq_true, Bool.true_eq_false, eq_self, not_true_eq_false, not_false_eq_true, sK0, sK1, sK2, sK3, sK4, sK5, sK6, sK7, sK8, sK9, sK10, sK11, sK12, sK13, sK14, sK15, sK16, sK17, sK18, sK19, sK20, sK21, sK22, sK23, sK24, sK25, sK26, sK27, sK28, sK29, sK30, sK31, sK32, sK33, sK34, sK35, sK36, sK37, sK38, sK39, sK40, sK41, sK42, sK43, sK44, sK45, sK46, sK47, sK48, sK49, sK50, sK51, sK52, sK53, sK54, sK55, sK56, sK57, sK58, sK59, sK60, sK61, sK62, sK63, sK64, sK65, sK66, sK67, sK68, sK69, sK70, sK71, sK72, sK73, sK74, sK75, sL1, sL3, sL6, sL8, sL9, sL10, sL11, sL12, sL15, sL17, sL18, sL21, sL23, sL24, sL26, sL29, sL31, sL32, sL34, sL36, sL37, sL39, sL40, sL41, sL43, sL45, sL46, sL47, sL48, sL49, sL50, sL51, sL52, sL53, sL55, sL57, sL59, sL61, sL62, sL63, sL64, sL65, sL67, sL68, sL70, sL71, sL73, sL74, sL75, sR0_0, sR0_2, sR0_5, sR0_6, sR0_11, sR2_5, sR2_6, sR2_7, sR4_1, sR4_2, sR4_4, sR7_0, sR7_1, sR13_1, sR13_2, sR13_4, sR16_0, sR16_1, sR19_1, sR19_2, sR19_4, sR22_0, sR22_1, sR25_0, sR25_2, sR25_3, sR25_4, sR25_5, sR25_6, sR25_7, sR25_8, sR25_10, sR27_1, sR27_2, sR27_4, sR30_0, sR30_1, sR33_0, sR35_0, sR35_1, sR38_0, sR38_1, sR38_2, sR42_0, sR42_5, sR42_7, sR42_11, sR42_12, sR42_13, sR53_0, sR53_1, sR53_2, sR53_3, sR54_1, sR56_1, sR58_1, sR60_1, sR65_0, sR65_1, sR65_2, sR66_0, sR66_1, sR69_0, sR69_1, sR72_0, sR72_1, ↓sB0_0, ↓sB0_2, ↓sB0_5, ↓sB0_6, ↓sB0_11, ↓sB2_5, ↓sB2_6, ↓sB2_7, ↓sB4_1, ↓sB4_2, ↓sB4_4, ↓sB7_0, ↓sB7_1, ↓sB13_1, ↓sB13_2, ↓sB13_4, ↓sB16_0, ↓sB16_1, ↓sB19_1, ↓sB19_2, ↓sB19_4, ↓sB22_0, ↓sB22_1, ↓sB25_0, ↓sB25_2, ↓sB25_3, ↓sB25_4, ↓sB25_5, ↓sB25_6, ↓sB25_7, ↓sB25_8, ↓sB25_10, ↓sB27_1, ↓sB27_2, ↓sB27_4, ↓sB30_0, ↓sB30_1, ↓sB33_0, ↓sB35_0, ↓sB35_1, ↓sB38_0, ↓sB38_1, ↓sB38_2, ↓sB42_0, ↓sB42_5, ↓sB42_7, ↓sB42_11, ↓sB42_12, ↓sB42_13, ↓sB53_0, ↓sB53_1, ↓sB53_2, ↓sB53_3, ↓sB54_1, ↓sB56_1, ↓sB58_1, ↓sB60_1, ↓sB65_0, ↓sB65_1, ↓sB65_2, ↓sB66_0, ↓sB66_1, ↓sB69_0, ↓sB69_1, ↓sB72_0, ↓sB72_1, c10, c11, r9, ↓bd_of r2, e1, e2, e3, t1, u1]
theorem isNameOf_c {h : Zh} {tx : Nat → Int} {n p m i : Nat} (q : RD h tx n p) (hi : i < 4) (hm : m ≤ n) (c10 : zI h 10 i = iI (skp tx n m)) (c11 : zI h 11 i = iI (wl tx n m)) : fX7_isNameOf 2 (iI i) h = some (iI (bI (sam tx n p m)), h) := by
  have s := q.1
  obtain ⟨hp, hn⟩ := q.p
  have r9 := q.2.1.2.2.2.1
  have r10 := q.2.1.2.2.2.2.1
  have b1 := tkN_b tx hp
  have b2 := tkN_b tx hm
  have w1 : wl tx n p = tkN tx n p - skp tx n p := rfl
  have w2 : wl tx n m = tkN tx n m - skp tx n m := rfl
  have e10 : (tkN tx n p : Int) - (skp tx n p : Int) = (wl tx n p : Int) := by omega
  unfold sam
  by_cases c : wl tx n p = wl tx n m
  · rw [decide_eq_true c, Bool.true_and]
    have hB : ∀ j, j < wl tx n m → bX7_isNameOf_22 h 2 (iI i) (iI j) h = if tx (skp tx n p + j) = tx (skp tx n m + j) then some (0, (iI ((j + 1 : Nat) : Int), h)) else some (1, (iI j, h)) := fun j hj => isNameOf_b q hi (by omega) (by omega) r9 c10 c11 hj
    have hX : bX7_isNameOf_22 h 2 (iI i) (iI (wl tx n m)) h = some (2, (iI (wl tx n m), h)) := by
      unfold bX7_isNameOf_22
      generalize wl tx n m = l at *
      simp (maxSteps := 1000000) (disch := (first | assumption | exact ne_b rfl | omega)) only [↓reduceIte, ↓zlet_eq, ↓bdR_sI, ↓bdR_sJ, ↓bdR_aI, zc2_some, Option.bind_some, ↓si_m1, ↓si_m2, ↓si_m3, iI_lit, iI_add, iI_sub, iI_mul, leT, leF, ltT, ltF, eqT, eqF, zinT, clI, Int.toNat_natCast, Int.reduceToNat, tN1, tNa, tN0, tNm, if_pos, if_neg, zI_sI, zI_sJ, zI_sR, zJ_sI, zJ_sJ, zJ_sR, zR_sI, zR_sJ, zR_sR, zK_sI, zK_sJ, zK_sR, zL_sI, zL_sJ, zL_sR, zI_aI, zJ_aI, zR_aI, zK_aI, zL_aI, z2_at, z2_a, z2_k, z1_self, z1_ne, true_and, and_true, bIt, bIf, Bool.false_eq_true, Bool.true_eq_false, eq_self, not_true_eq_false, not_false_eq_true, sK0, sK1, sK2, sK3, sK4, sK5, sK6, sK7, sK8, sK9, sK10, sK11, sK12, sK13, sK14, sK15, sK16, sK17, sK18, sK19, sK20, sK21, sK22, sK23, sK24, sK25, sK26, sK27, sK28, sK29, sK30, sK31, sK32, sK33, sK34, sK35, sK36, sK37, sK38, sK39, sK40, sK41, sK42, sK43, sK44, sK45, sK46, sK47, sK48, sK49, sK50, sK51, sK52, sK53, sK54, sK55, sK56, sK57, sK58, sK59, sK60, sK61, sK62, sK63, sK64, sK65, sK66, sK67, sK68, sK69, sK70, sK71, sK72, sK73, sK74, sK75, sL1, sL3, sL6, sL8, sL9, sL10, sL11, sL12, sL15, sL17, sL18, sL21, sL23, sL24, sL26, sL29, sL31, sL32, sL34, sL36, sL37, sL39, sL40, sL41, sL43, sL45, sL46, sL47, sL48, sL49, sL50, sL51, sL52, sL53, sL55, sL57, sL59, sL61, sL62, sL63, sL64, sL65, sL67, sL68, sL70, sL71, sL73, sL74, sL75, sR0_0, sR0_2, sR0_5, sR0_6, sR0_11, sR2_5, sR2_6, sR2_7, sR4_1, sR4_2, sR4_4, sR7_0, sR7_1, sR13_1, sR13_2, sR13_4, sR16_0, sR16_1, sR19_1, sR19_2, sR19_4, sR22_0, sR22_1, sR25_0, sR25_2, sR25_3, sR25_4, sR25_5, sR25_6, sR25_7, sR25_8, sR25_10, sR27_1, sR27_2, sR27_4, sR30_0, sR30_1, sR33_0, sR35_0, sR35_1, sR38_0, sR38_1, sR38_2, sR42_0, sR42_5, sR42_7, sR42_11, sR42_12, sR42_13, sR53_0, sR53_1, sR53_2, sR53_3, sR54_1, sR56_1, sR58_1, sR60_1, sR65_0, sR65_1, sR65_2, sR66_0, sR66_1, sR69_0, sR69_1, sR72_0, sR72_1, ↓sB0_0, ↓sB0_2, ↓sB0_5, ↓sB0_6, ↓sB0_11, ↓sB2_5, ↓sB2_6, ↓sB2_7, ↓sB4_1, ↓sB4_2, ↓sB4_4, ↓sB7_0, ↓sB7_1, ↓sB13_1, ↓sB13_2, ↓sB13_4, ↓sB16_0, ↓sB16_1, ↓sB19_1, ↓sB19_2, ↓sB19_4, ↓sB22_0, ↓sB22_1, ↓sB25_0, ↓sB25_2, ↓sB25_3, ↓sB25_4, ↓sB25_5, ↓sB25_6, ↓sB25_7, ↓sB25_8, ↓sB25_10, ↓sB27_1, ↓sB27_2, ↓sB27_4, ↓sB30_0, ↓sB30_1, ↓sB33_0, ↓sB35_0, ↓sB35_1, ↓sB38_0, ↓sB38_1, ↓sB38_2, ↓sB42_0, ↓sB42_5, ↓sB42_7, ↓sB42_11, ↓sB42_12, ↓sB42_13, ↓sB53_0, ↓sB53_1, ↓sB53_2, ↓sB53_3, ↓sB54_1, ↓sB56_1, ↓sB58_1, ↓sB60_1, ↓sB65_0, ↓sB65_1, ↓sB65_2, ↓sB66_0, ↓sB66_1, ↓sB69_0, ↓sB69_1, ↓sB72_0, ↓sB72_1, c11]
    have hk := lp_sb (body := fun q : Int32 × Zh => bX7_isNameOf_22 h 2 (iI i) q.1 q.2) (s0 := (iI 0, h)) (k := fun q => kX7_isNameOf_22 h q.1 q.2.1 q.2.2) (fun j => (iI j, h)) (fun j => !decide (tx (skp tx n p + j) = tx (skp tx n m + j))) 0 1 (fun j => (iI j, h)) (iI (wl tx n m), h) (wl tx n m) rfl (by omega) (fun j hj hP => by
      have : tx (skp tx n p + j) = tx (skp tx n m + j) := by simpa using hP
      show bX7_isNameOf_22 h 2 (iI i) (iI j) h = _
      rw [hB j hj, if_pos this]) (fun j hj hP => by
      have : ¬ tx (skp tx n p + j) = tx (skp tx n m + j) := by simpa using hP
      show bX7_isNameOf_22 h 2 (iI i) (iI j) h = _
      rw [hB j hj, if_neg this]) hX
    have ha := alb_z (P := fun j => !decide (tx (skp tx n p + j) = tx (skp tx n m + j))) (n := wl tx n m)
    simp only [Bool.not_not] at ha
    rw [ha]
    have hfin : (lp (fun q : Int32 × Zh => bX7_isNameOf_22 h 2 (iI i) q.1 q.2) zB (iI 0, h)).bind (fun q => kX7_isNameOf_22 h q.1 q.2.1 q.2.2) = some (iI (bI (!decide (zfst (fun j => !decide (tx (skp tx n p + j) = tx (skp tx n m + j))) (wl tx n m) < wl tx n m))), h) := by
      rw [hk]
      by_cases c2 : zfst (fun j => !decide (tx (skp tx n p + j) = tx (skp tx n m + j))) (wl tx n m) < wl tx n m
      · rw [if_pos c2, decide_eq_true c2]
        rfl
      · rw [if_neg c2, decide_eq_false c2]
        rfl
    have cc : (wl tx n p : Int) = (wl tx n m : Int) := by omega
    have l9 : wl tx n m ≤ 900 := by omega
    have hfin' : (lp (fun q : Int32 × Zh => bX7_isNameOf_22 h 2 (iI i) q.1 q.2) zB ((0 : Int32), h)).bind (fun q => kX7_isNameOf_22 h q.1 q.2.1 q.2.2) = some (iI (bI (!decide (zfst (fun j => !decide (tx (skp tx n p + j) = tx (skp tx n m + j))) (wl tx n m) < wl tx n m))), h) := hfin
    unfold fX7_isNameOf
    rw [zlet_eq, if_pos (sK2 s), sR2_6 s, Option.bind_some, if_pos (sK11 s), if_pos (by rw [sL11 s]; exact zin_N hi (by decide)), r10, r9, iI_sub, e10, cc]
    rw [show (iI (i : Int)).toNatClampNeg = i from clN (by omega), c11, if_pos rfl]
    exact hfin'
  · rw [decide_eq_false c, Bool.false_and]
    have l9 : wl tx n m ≤ 900 ∧ wl tx n p ≤ 900 := by omega
    unfold fX7_isNameOf
    rw [zlet_eq, if_pos (sK2 s), sR2_6 s, Option.bind_some, if_pos (sK11 s), if_pos (by rw [sL11 s]; exact zin_N hi (by decide)), r10, r9, iI_sub, e10]
    rw [show (iI (i : Int)).toNatClampNeg = i from clN (by omega), c11, if_neg (by rw [iI_eq ⟨by omega, by omega⟩ ⟨by omega, by omega⟩]; omega)]
    rfl
theorem readName_c {h : Zh} {tx : Nat → Int} {n p ts : Nat} {S : PS} (q : RD h tx n p) (hts : ts = 13 ∨ ts = 19) (r4 : zR h 2 4 = some ts) (t3 : zI h ts 3 = iI (Prc S)) (hrc : Prc S < 4) (nm : ∀ i, i < Prc S → zI h 10 i = iI (skp tx n (Pnm S i)) ∧ zI h 11 i = iI (wl tx n (Pnm S i)) ∧ Pnm S i ≤ n) : CRt (fX7_readName 2 h) h [2, 10, 11] 0 (cM tx n S p) (fun _ p' w h' => w = iI 1 ∧ p' = p ∧ RD h' tx n (tkN tx n p) ∧ zI h' 10 (Prc S) = iI (skp tx n p) ∧ zI h' 11 (Prc S) = iI (wl tx n p) ∧ ∀ j, j ≠ Prc S → zI h' 10 j = zI h 10 j ∧ zI h' 11 j = zI h 11 j) := by
  have s := q.1
  have k2 := sK2 s
  obtain ⟨hp, hn⟩ := q.p
  have r8 := q.2.1.2.2.1
  have r9 := q.2.1.2.2.2.1
  have r10 := q.2.1.2.2.2.2.1
  have b1 := tkN_b tx hp
  have hb := tkK_b tx n p
  obtain ⟨kt, -⟩ := tdS s hts
  have e0 := is_c (s := 0) q (by decide)
  have e9 := is_c (s := 9) q (by decide)
  have eA := is_c (s := 10) q (by decide)
  have eB := is_c (s := 11) q (by decide)
  have eC := is_c (s := 12) q (by decide)
  obtain ⟨hf, f1, f2, f3, f4⟩ := fail_c q 1
  have ff1 : (zc2 (fX7_fail 2 ((1 : Int32)) h) fun v8 h7 => if v8 = 0 ∨ v8 = 1 then some (v8, h7) else none) = some (iI 0, hf) := (zc_of f1 _).trans rfl
  have bad : fX7_readName 2 h = some (iI 0, hf) → ∀ G, CRt (fX7_readName 2 h) h [2, 10, 11] 0 (er 1 (skp tx n p) : PR Unit) G := fun e G => CRt.er e (f2.mono (by simp)) f3 f4
  unfold cM
  by_cases c1 : tkK tx n p = 1
  · have r8' : zI h 2 8 = (1 : Int32) := by rw [r8, c1]; rfl
    cases c2 : rsv tx n p
    · rw [if_pos ⟨c1, rfl⟩]
      unfold rsv at c2
      simp only [Bool.or_eq_false_iff] at c2
      obtain ⟨d0, d9, dA, dB, dC⟩ := c2
      rw [d0] at e0; rw [d9] at e9; rw [dA] at eA; rw [dB] at eB; rw [dC] at eC
      have ee : fX7_readName 2 h = (lp (fun q : Int32 × Zh => bX7_readName_61 h 2 q.1 q.2) zB ((0 : Int32), h)).bind fun q => kX7_readName_61 h 2 q.1 q.2.1 q.2.2 := by
        unfold fX7_readName
        rw [zlet_eq, if_pos k2, if_pos r8']
        refine (zc_of e0 _).trans ((if_pos (show iI (bI false) = 0 by decide)).trans ?_)
        refine (zc_of e9 _).trans ((if_pos (show iI (bI false) = 0 by decide)).trans ?_)
        refine (zc_of eA _).trans ((if_pos (show iI (bI false) = 0 by decide)).trans ?_)
        refine (zc_of eB _).trans ((if_pos (show iI (bI false) = 0 by decide)).trans ?_)
        exact (zc_of eC _).trans (if_pos (show iI (bI false) = 0 by decide))
      have hB : ∀ i, i < Prc S → bX7_readName_61 h 2 (iI i) h = if sam tx n p (Pnm S i) = true then some (1, (iI i, h)) else some (0, (iI ((i + 1 : Nat) : Int), h)) := by
        intro i hi
        obtain ⟨n1, n2, n3⟩ := nm i hi
        have en := isNameOf_c (i := i) (m := Pnm S i) q (by omega) n3 n1 n2
        have hlt : ¬ iI (Prc S : Int) ≤ iI (i : Int) := by rw [iI_le ⟨by omega, by omega⟩ ⟨by omega, by omega⟩]; omega
        unfold bX7_readName_61
        rw [r4, Option.bind_some, if_pos kt, t3, if_neg hlt]
        refine (zc_of en _).trans ?_
        cases sam tx n p (Pnm S i)
        · rw [if_pos (by decide), if_neg (by decide), zlet_eq]
          show some (0, (iI (i : Int) + iI 1, h)) = _
          rw [iI_add]
          rfl
        · rw [if_neg (by decide), if_pos rfl]
      have hX : bX7_readName_61 h 2 (iI (Prc S)) h = some (2, (iI (Prc S), h)) := by
        unfold bX7_readName_61
        rw [r4, Option.bind_some, if_pos kt, t3, if_pos (Int32.le_refl _)]
      have hk := lp_sb (body := fun q : Int32 × Zh => bX7_readName_61 h 2 q.1 q.2) (s0 := ((0 : Int32), h)) (k := fun q => kX7_readName_61 h 2 q.1 q.2.1 q.2.2) (fun j => (iI j, h)) (fun i => sam tx n p (Pnm S i)) 0 1 (fun j => (iI j, h)) (iI (Prc S), h) (Prc S) rfl (by omega) (fun j hj hP => by
        show bX7_readName_61 h 2 (iI j) h = _
        rw [hB j hj, hP, if_neg (by decide)]) (fun j hj hP => by
        show bX7_readName_61 h 2 (iI j) h = _
        rw [hB j hj, hP, if_pos rfl]) hX
      rw [ee, hk, agn_z]
      by_cases c3 : zfst (fun i => sam tx n p (Pnm S i)) (Prc S) < Prc S
      · rw [if_pos c3, decide_eq_true c3, if_pos rfl]
        obtain ⟨hg, g1, g2, g3, g4⟩ := fail_c q 3
        refine CRt.er (h' := hg) ?_ (g2.mono (by simp)) g3 g4
        unfold kX7_readName_61
        rw [if_pos rfl]
        exact (zc_of g1 _).trans rfl
      · rw [if_neg c3, decide_eq_false c3, if_neg (by decide)]
        have w1 : (tkN tx n p : Int) - (skp tx n p : Int) = (wl tx n p : Int) := by unfold wl; omega
        have g1 : Fm [10] h (zsI h 10 (Prc S) (iI (skp tx n p))) := Fm_sI _ _ _ (by simp)
        have v1 : zI (zsI h 10 (Prc S) (iI (skp tx n p))) 10 (Prc S) = iI (skp tx n p) := by rw [zI_sI, z2_at]
        have vj : ∀ j, j ≠ Prc S → zI (zsI h 10 (Prc S) (iI (skp tx n p))) 10 j = zI h 10 j := fun j hj => by rw [zI_sI, z2_k _ _ _ hj]
        have n11 : (11 : Nat) ∉ [10] := by decide
        have n10 : (10 : Nat) ∉ [11] := by decide
        show CRt (kX7_readName_61 h 2 2 (iI (Prc S)) h) h _ _ _ _
        unfold kX7_readName_61
        rw [if_neg (by decide), sR2_5 s, Option.bind_some, r4, Option.bind_some, if_pos kt, if_pos (sK10 s), t3, if_pos (by rw [sL10 s]; exact zin_N hrc (by decide)), show (iI (Prc S : Int)).toNatClampNeg = Prc S from clN (by omega), r9, zlet_eq]
        generalize zsI h 10 (Prc S) (iI (skp tx n p)) = hA at *
        have nt10 : ts ∉ [10] := by simp; omega
        rw [show zR hA 2 6 = some 11 by rw [g1.R]; exact sR2_6 s, Option.bind_some, show zR hA 2 4 = some ts by rw [g1.R]; exact r4, Option.bind_some, if_pos kt, if_pos (sK11 s), g1.o nt10, t3, if_pos (by rw [sL11 s]; exact zin_N hrc (by decide)), show (iI (Prc S : Int)).toNatClampNeg = Prc S from clN (by omega), g1.o (show (2 : Nat) ∉ [10] by decide), g1.o (show (2 : Nat) ∉ [10] by decide), r9, r10, iI_sub, w1, zlet_eq]
        have g2 : Fm [11] hA (zsI hA 11 (Prc S) (iI (wl tx n p))) := Fm_sI _ _ _ (by simp)
        have v2 : zI (zsI hA 11 (Prc S) (iI (wl tx n p))) 11 (Prc S) = iI (wl tx n p) := by rw [zI_sI, z2_at]
        have wj : ∀ j, j ≠ Prc S → zI (zsI hA 11 (Prc S) (iI (wl tx n p))) 11 j = zI hA 11 j := fun j hj => by rw [zI_sI, z2_k _ _ _ hj]
        generalize zsI hA 11 (Prc S) (iI (wl tx n p)) = hB2 at *
        obtain ⟨h5, s1, s2, s3⟩ := step_c ((q.fm g1 (by decide) (by decide)).fm g2 (by decide) (by decide))
        refine CRt.rt (h' := h5) (w := iI 1) (bd_of s1 _) ((g1.mono (by simp)).tr ((g2.mono (by simp)).tr (s2.mono (by simp)))) ⟨rfl, rfl, s3, ?_, ?_, fun j hj => ⟨?_, ?_⟩⟩
        · rw [s2.o (by decide), g2.o n10, v1]
        · rw [s2.o (by decide), v2]
        · rw [s2.o (by decide), g2.o n10, vj j hj]
        · rw [s2.o (by decide), wj j hj, g1.o n11]
    · rw [if_neg (fun z => by cases z.2)]
      refine bad ?_ _
      unfold rsv at c2
      unfold fX7_readName
      rw [zlet_eq, if_pos k2, if_pos r8']
      refine (zc_of e0 _).trans ?_
      cases d0 : isw tx n p 0
      · rw [d0] at c2
        refine (if_pos (show iI (bI false) = 0 by decide)).trans ?_
        refine (zc_of e9 _).trans ?_
        cases d9 : isw tx n p 9
        · rw [d9] at c2
          refine (if_pos (show iI (bI false) = 0 by decide)).trans ?_
          refine (zc_of eA _).trans ?_
          cases dA : isw tx n p 10
          · rw [dA] at c2
            refine (if_pos (show iI (bI false) = 0 by decide)).trans ?_
            refine (zc_of eB _).trans ?_
            cases dB : isw tx n p 11
            · rw [dB] at c2
              refine (if_pos (show iI (bI false) = 0 by decide)).trans ?_
              refine (zc_of eC _).trans ?_
              have dC : isw tx n p 12 = true := c2
              rw [dC]
              exact (if_neg (show ¬ iI (bI true) = 0 by decide)).trans ff1
            · exact (if_neg (show ¬ iI (bI true) = 0 by decide)).trans ff1
          · exact (if_neg (show ¬ iI (bI true) = 0 by decide)).trans ff1
        · exact (if_neg (show ¬ iI (bI true) = 0 by decide)).trans ff1
      · exact (if_neg (show ¬ iI (bI true) = 0 by decide)).trans ff1
  · rw [if_neg (fun z => c1 z.1)]
    refine bad ?_ _
    have r8' : ¬ zI h 2 8 = (1 : Int32) := by
      rw [r8, show (1 : Int32) = iI 1 from rfl, iI_eq ⟨by omega, by omega⟩ ⟨by decide, by decide⟩]; omega
    unfold fX7_readName
    rw [zlet_eq, if_pos k2, if_neg r8']
    exact ff1
def oi (o : Option Nat) : Int := match o with
  | none => -1
  | some k => k
theorem kp_b {tx : Nat → Int} {n p k : Nat} (h : kpW tx n p = some k) : k ≤ 3 := by
  unfold kpW at h
  repeat' split at h
  all_goals (cases h <;> decide)
theorem tl_b {tx : Nat → Int} {n p k : Nat} (h : tlW tx n p = some k) : k ≤ 4 := by
  unfold tlW at h
  repeat' split at h
  all_goals (cases h <;> decide)
theorem keepWord_c {h : Zh} {tx : Nat → Int} {n p : Nat} (q : RD h tx n p) : fX7_keepWord 2 h = some (iI (oi (kpW tx n p)), h) := by
  have e0 := is_c (s := 16) q (by decide)
  have e1 := is_c (s := 17) q (by decide)
  have e2 := is_c (s := 18) q (by decide)
  have e3 := is_c (s := 19) q (by decide)
  unfold fX7_keepWord kpW
  rw [zlet_eq, if_pos (sK2 q.1)]
  refine (zc_of e0 _).trans ?_
  cases isw tx n p 16
  · refine (if_pos (show iI (bI false) = 0 by decide)).trans ((zc_of e1 _).trans ?_)
    cases isw tx n p 17
    · refine (if_pos (show iI (bI false) = 0 by decide)).trans ((zc_of e2 _).trans ?_)
      cases isw tx n p 18
      · refine (if_pos (show iI (bI false) = 0 by decide)).trans ((zc_of e3 _).trans ?_)
        cases isw tx n p 19
        · rfl
        · rfl
      · rfl
    · rfl
  · rfl
theorem tellWord_c {h : Zh} {tx : Nat → Int} {n p : Nat} (q : RD h tx n p) : fX7_tellWord 2 h = some (iI (oi (tlW tx n p)), h) := by
  have e0 := is_c (s := 21) q (by decide)
  have e1 := is_c (s := 22) q (by decide)
  have e2 := is_c (s := 23) q (by decide)
  have e3 := is_c (s := 24) q (by decide)
  have e4 := is_c (s := 19) q (by decide)
  unfold fX7_tellWord tlW
  rw [zlet_eq, if_pos (sK2 q.1)]
  refine (zc_of e0 _).trans ?_
  cases isw tx n p 21
  · refine (if_pos (show iI (bI false) = 0 by decide)).trans ((zc_of e1 _).trans ?_)
    cases isw tx n p 22
    · refine (if_pos (show iI (bI false) = 0 by decide)).trans ((zc_of e2 _).trans ?_)
      cases isw tx n p 23
      · refine (if_pos (show iI (bI false) = 0 by decide)).trans ((zc_of e3 _).trans ?_)
        cases isw tx n p 24
        · refine (if_pos (show iI (bI false) = 0 by decide)).trans ((zc_of e4 _).trans ?_)
          cases isw tx n p 19
          · rfl
          · rfl
        · rfl
      · rfl
    · rfl
  · rfl
theorem readKind_c {h : Zh} {tx : Nat → Int} {n p : Nat} (q : RD h tx n p) : CRt (fX7_readKind 2 h) h [2] (-1) (pK tx n p) (fun k p' w h' => w = iI k ∧ RD h' tx n p') := by
  have k2 := sK2 q.1
  have e0 := is_c (s := 13) q (by decide)
  have e1 := is_c (s := 14) q (by decide)
  obtain ⟨h5, s1, s2, s3⟩ := step_c q
  unfold fX7_readKind pK
  rw [zlet_eq, if_pos k2, e0, zc2_some]
  cases isw tx n p 13
  · rw [if_pos (by decide), e1, zc2_some, if_neg (show ¬ false = true by decide)]
    cases isw tx n p 14
    · rw [if_pos (by decide), if_neg (show ¬ false = true by decide)]
      refine cr_bn (pass_c (s := 15) q (by decide)) (by simp) (fun h' _ => ⟨h', by rw [if_pos (by decide)]; rfl, Fm.rf, rfl, rfl⟩) ?_
      intro a p1 w h6 ea ⟨ew, q6⟩ f6
      subst ew
      rw [if_neg (by decide), keepWord_c q6, zc2_some]
      unfold pWd
      cases ek : kpW tx n p1 with
      | none =>
        obtain ⟨hg, g1, g2, g3, g4⟩ := fail_c q6 1
        show CRt _ h6 [2] (-1) (er 1 (skp tx n p1) : PR Nat) _
        refine CRt.er (h' := hg) ?_ g2 g3 g4
        refine (if_neg (show ¬ (0 : Int32) ≤ iI (oi none) by decide)).trans ?_
        exact (zc_of g1 _).trans rfl
      | some k =>
        have kb := kp_b ek
        obtain ⟨h7, t1, t2, t3⟩ := step_c q6
        show CRt _ h6 [2] (-1) (bn (pP tx n 20 (tkN tx n p1)) fun _ p => bn (pO tx n (tlW tx n p) p) fun t p => rt (5 * k + t) p) _
        rw [if_pos (show (0 : Int32) ≤ iI (oi (some k)) from (nneg (by omega)).2), t1, Option.bind_some]
        refine cr_st t2 (by simp) ?_
        refine cr_bn (pass_c (s := 20) t3 (by decide)) (by simp) (fun h' _ => ⟨h', by rw [if_pos (by decide)]; rfl, Fm.rf, rfl, rfl⟩) ?_
        intro a p2 w h8 ea2 ⟨ew, q8⟩ f8
        subst ew
        rw [if_neg (by decide), tellWord_c q8, zc2_some]
        cases et : tlW tx n p2 with
        | none =>
          obtain ⟨hg, g1, g2, g3, g4⟩ := fail_c q8 1
          show CRt _ h8 [2] (-1) (er 1 (skp tx n p2) : PR Nat) _
          refine CRt.er (h' := hg) ?_ g2 g3 g4
          refine (if_neg (show ¬ (0 : Int32) ≤ iI (oi none) by decide)).trans ?_
          exact (zc_of g1 _).trans rfl
        | some t =>
          have tb := tl_b et
          obtain ⟨h9, u1, u2, u3⟩ := step_c q8
          show CRt _ h8 [2] (-1) (rt (5 * k + t) (tkN tx n p2) : PR Nat) _
          rw [if_pos (show (0 : Int32) ≤ iI (oi (some t)) from (nneg (by omega)).2), u1, Option.bind_some]
          refine CRt.rt rfl u2 ⟨?_, u3⟩
          show iI 5 * iI (k : Int) + iI (t : Int) = _
          rw [iI_mul, iI_add]
          exact congrArg iI (by omega)
    · rw [if_neg (by decide), if_pos rfl, s1, Option.bind_some]
      exact CRt.rt rfl s2 ⟨rfl, s3⟩
  · rw [if_neg (by decide), if_pos rfl, s1, Option.bind_some]
    exact CRt.rt rfl s2 ⟨rfl, s3⟩
