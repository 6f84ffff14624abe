/-! the class's layer: orders, rows by words -/
theorem rot_step {u : Nat → Nat} {i a b : Nat} {B : Nat → Int32} (h1 : i ≤ a) (h2 : a < b) : z1 (fun j => if i < j ∧ j ≤ a then iI (u (j - 1)) else afill b (fun j => iI (u j)) B j) i (iI (u a)) = afill b (fun j => iI (rot u i a j)) B := by
  funext j
  unfold z1 afill rot ri
  dsimp only
  by_cases c : j = i
  · rw [if_pos c, if_pos (by omega), if_pos c]
  · rw [if_neg c]
    by_cases c2 : i < j ∧ j ≤ a
    · rw [if_pos c2, if_pos (by omega), if_neg c, if_pos c2]
    · rw [if_neg c2]
      by_cases c3 : j < b
      · rw [if_pos c3, if_pos c3, if_neg c, if_neg c2]
      · rw [if_neg c3, if_neg c3]
theorem arrange_in {i a b : Nat} {u : Nat → Nat} {B : Nat → Int32} {g h : Zh} (sg : St g) (s : St h) (h1 : i ≤ a) (h2 : a < b) (hb : b ≤ 5) : lp (fun q : Int32 × Zh => bX3_arrange_68 g 35 (iI i) q.1 q.2) zB (iI a, zaI h 37 (afill b (fun j => iI (u j)) B)) = some (1, (iI i, zaI h 37 (fun j => if i < j ∧ j ≤ a then iI (u (j - 1)) else afill b (fun j => iI (u j)) B j))) := by
  refine lp_for0 (st := fun e => ((iI ((a - e : Nat) : Int), zaI h 37 (fun j => if a - e < j ∧ j ≤ a then iI (u (j - 1)) else afill b (fun j => iI (u j)) B j)) : Int32 × Zh)) (e := 0) (a - i) ?_ (by omega) ?_ ?_
  · congr 2
    funext j
    rw [if_neg (by omega)]
  · intro e he
    show bX3_arrange_68 g 35 (iI i) (iI ((a - e : Nat) : Int)) (zaI h 37 _) = _
    unfold bX3_arrange_68
    have e1 : ((a - e : Nat) : Int) - 1 = ((a - e - 1 : Nat) : Int) := by omega
    simp (maxSteps := 1000000) (disch := (first | assumption | exact ne_b rfl | omega)) only [↓reduceIte, ↓zlet_eq, ↓bdR_sI, ↓bdR_sJ, ↓bdR_aI, zc2_some, Option.bind_some, ↓si_m1, ↓si_m2, ↓si_m3, iI_lit, iI_add, iI_sub, iI_mul, leT, leF, ltT, ltF, eqT, eqF, zinT, clI, Int.toNat_natCast, tN1, tNa, tN0, tNm, if_pos, if_neg, zI_sI, zI_sJ, zI_sR, zJ_sI, zJ_sJ, zJ_sR, zR_sI, zR_sJ, zR_sR, zK_sI, zK_sJ, zK_sR, zL_sI, zL_sJ, zL_sR, zI_aI, zJ_aI, zR_aI, zK_aI, zL_aI, z2_at, z2_a, z2_k, z1_self, z1_ne, true_and, and_true, bIt, bIf, Bool.false_eq_true, Bool.true_eq_false, eq_self, not_true_eq_false, not_false_eq_true, sK0, sK1, sK2, sK3, sK4, sK5, sK6, sK7, sK8, sK9, sK10, sK11, sK12, sK13, sK14, sK15, sK16, sK17, sK18, sK19, sK20, sK21, sK22, sK23, sK24, sK25, sK26, sK27, sK28, sK29, sK30, sK31, sK32, sK33, sK34, sK35, sK36, sK37, sK38, sK39, sK40, sK41, sK42, sK43, sK44, sK45, sK46, sK47, sK48, sK49, sK50, sK51, sK52, sK53, sK54, sK55, sK56, sK57, sK58, sK59, sK60, sK61, sK62, sK63, sK64, sK65, sK66, sK67, sK68, sK69, sK70, sK71, sK72, sK73, sK74, sK75, sL1, sL3, sL6, sL8, sL9, sL10, sL11, sL12, sL15, sL17, sL18, sL21, sL23, sL24, sL26, sL29, sL31, sL32, sL34, sL36, sL37, sL39, sL40, sL41, sL43, sL45, sL46, sL47, sL48, sL49, sL50, sL51, sL52, sL53, sL55, sL57, sL59, sL61, sL62, sL63, sL64, sL65, sL67, sL68, sL70, sL71, sL73, sL74, sL75, sR0_0, sR0_2, sR0_5, sR0_6, sR0_11, sR2_5, sR2_6, sR2_7, sR4_1, sR4_2, sR4_4, sR7_0, sR7_1, sR13_1, sR13_2, sR13_4, sR16_0, sR16_1, sR19_1, sR19_2, sR19_4, sR22_0, sR22_1, sR25_0, sR25_2, sR25_3, sR25_4, sR25_5, sR25_6, sR25_7, sR25_8, sR25_10, sR27_1, sR27_2, sR27_4, sR30_0, sR30_1, sR33_0, sR35_0, sR35_1, sR38_0, sR38_1, sR38_2, sR42_0, sR42_5, sR42_7, sR42_11, sR42_12, sR42_13, sR53_0, sR53_1, sR53_2, sR53_3, sR54_1, sR56_1, sR58_1, sR60_1, sR65_0, sR65_1, sR65_2, sR66_0, sR66_1, sR69_0, sR69_1, sR72_0, sR72_1, ↓sB0_0, ↓sB0_2, ↓sB0_5, ↓sB0_6, ↓sB0_11, ↓sB2_5, ↓sB2_6, ↓sB2_7, ↓sB4_1, ↓sB4_2, ↓sB4_4, ↓sB7_0, ↓sB7_1, ↓sB13_1, ↓sB13_2, ↓sB13_4, ↓sB16_0, ↓sB16_1, ↓sB19_1, ↓sB19_2, ↓sB19_4, ↓sB22_0, ↓sB22_1, ↓sB25_0, ↓sB25_2, ↓sB25_3, ↓sB25_4, ↓sB25_5, ↓sB25_6, ↓sB25_7, ↓sB25_8, ↓sB25_10, ↓sB27_1, ↓sB27_2, ↓sB27_4, ↓sB30_0, ↓sB30_1, ↓sB33_0, ↓sB35_0, ↓sB35_1, ↓sB38_0, ↓sB38_1, ↓sB38_2, ↓sB42_0, ↓sB42_5, ↓sB42_7, ↓sB42_11, ↓sB42_12, ↓sB42_13, ↓sB53_0, ↓sB53_1, ↓sB53_2, ↓sB53_3, ↓sB54_1, ↓sB56_1, ↓sB58_1, ↓sB60_1, ↓sB65_0, ↓sB65_1, ↓sB65_2, ↓sB66_0, ↓sB66_1, ↓sB69_0, ↓sB69_1, ↓sB72_0, ↓sB72_1, e1, zsI_aI]
    rw [show ((a - e : Nat) : Int) + -1 = ((a - (e + 1) : Nat) : Int) by omega, afill_lt (by omega)]
    congr 4
    funext j
    unfold z1
    dsimp only
    by_cases c : j = a - e
    · rw [if_pos c, if_pos (by omega), c]
    · rw [if_neg c]
      by_cases c2 : a - e < j ∧ j ≤ a
      · rw [if_pos c2, if_pos (by omega)]
      · rw [if_neg c2, if_neg (by omega)]
  · show bX3_arrange_68 g 35 (iI i) (iI ((a - (a - i) : Nat) : Int)) (zaI h 37 _) = _
    unfold bX3_arrange_68
    rw [show a - (a - i) = i by omega]
    simp (maxSteps := 1000000) (disch := (first | assumption | exact ne_b rfl | omega)) only [↓reduceIte, ↓zlet_eq, ↓bdR_sI, ↓bdR_sJ, ↓bdR_aI, zc2_some, Option.bind_some, ↓si_m1, ↓si_m2, ↓si_m3, iI_lit, iI_add, iI_sub, iI_mul, leT, leF, ltT, ltF, eqT, eqF, zinT, clI, Int.toNat_natCast, tN1, tNa, tN0, tNm, if_pos, if_neg, zI_sI, zI_sJ, zI_sR, zJ_sI, zJ_sJ, zJ_sR, zR_sI, zR_sJ, zR_sR, zK_sI, zK_sJ, zK_sR, zL_sI, zL_sJ, zL_sR, zI_aI, zJ_aI, zR_aI, zK_aI, zL_aI, z2_at, z2_a, z2_k, z1_self, z1_ne, true_and, and_true, bIt, bIf, Bool.false_eq_true, Bool.true_eq_false, eq_self, not_true_eq_false, not_false_eq_true]
theorem fX3_arrange_eq {fr cnt num : Nat} {u : Nat → Nat} {B : Nat → Int32} {h : Zh} (s : St h) (hc1 : 1 ≤ cnt) (hfc : fr + cnt ≤ 5) (hnum : num < ff cnt cnt) : fX3_arrange 35 (iI fr) (iI cnt) (iI num) (zaI h 37 (afill (fr + cnt) (fun j => iI (u j)) B)) = some (zaI h 37 (afill (fr + cnt) (fun j => iI (arA u fr cnt num cnt j)) B)) := by
  have s1 : St (zaI h 37 (afill (fr + cnt) (fun j => iI (u j)) B)) := s.aI _ _
  have hn0 : num < 200 := by have := (ff_k cnt (by omega)).2.1; omega
  have hrl : ∀ i, i < cnt → rsA cnt num i < 200 := fun i hi => by
    have h1 := rsA_lt (by omega) hnum i hi
    have := (ff_k (cnt - i) (by omega)).2.1
    omega
  rw [arA_last (by omega) hc1 hnum]
  unfold fX3_arrange
  simp (maxSteps := 1000000) (disch := (first | assumption | exact ne_b rfl | omega)) only [↓reduceIte, ↓zlet_eq, ↓bdR_sI, ↓bdR_sJ, ↓bdR_aI, zc2_some, Option.bind_some, ↓si_m1, ↓si_m2, ↓si_m3, iI_lit, iI_add, iI_sub, iI_mul, leT, leF, ltT, ltF, eqT, eqF, zinT, clI, Int.toNat_natCast, tN1, tNa, tN0, tNm, if_pos, if_neg, zI_sI, zI_sJ, zI_sR, zJ_sI, zJ_sJ, zJ_sR, zR_sI, zR_sJ, zR_sR, zK_sI, zK_sJ, zK_sR, zL_sI, zL_sJ, zL_sR, zI_aI, zJ_aI, zR_aI, zK_aI, zL_aI, z2_at, z2_a, z2_k, z1_self, z1_ne, true_and, and_true, bIt, bIf, Bool.false_eq_true, Bool.true_eq_false, eq_self, not_true_eq_false, not_false_eq_true]
  refine (lp_fb (st := fun i => ((iI (rsA cnt num i), iI (i : Int), zaI h 37 (afill (fr + cnt) (fun j => iI (arA u fr cnt num i j)) B)) : Int32 × Int32 × Zh)) (e := 0) (s' := (iI (rsA cnt num (cnt - 1)), iI ((cnt - 1 : Nat) : Int), zaI h 37 (afill (fr + cnt) (fun j => iI (arA u fr cnt num (cnt - 1) j)) B))) (cnt - 1) rfl (by omega) ?_ ?_).trans rfl
  · intro i hi
    show bX3_arrange_6 (zaI h 37 _) 35 (iI fr) (iI cnt) (iI (rsA cnt num i)) (iI i) (zaI h 37 _) = _
    unfold bX3_arrange_6
    have hf := ff_k (cnt - 1 - i) (by omega)
    have hf1 := hf.1
    have hf2 := hf.2.1
    have hr1 := hrl i (by omega)
    have hdv := rsA_div (by omega) hnum (show i < cnt by omega)
    have hsd : iI (rsA cnt num i) / iI (ff (cnt - 1 - i) (cnt - 1 - i)) = iI ((rsA cnt num i / ff (cnt - 1 - i) (cnt - 1 - i) : Nat) : Int) := si_divN (by omega) (by omega) (by omega)
    have e1 : (cnt : Int) - 1 - (i : Int) = ((cnt - 1 - i : Nat) : Int) := by omega
    have e0 := fX0_falling_eq (n := ((cnt - 1 - i : Nat) : Int)) (k := cnt - 1 - i) ⟨by omega, by omega⟩ (by omega) (zaI h 37 (afill (fr + cnt) (fun j => iI (arA u fr cnt num i j)) B))
    rw [hf.2.2] at e0
    have e2 : (fr : Int) + (i : Int) + ((rsA cnt num i / ff (cnt - 1 - i) (cnt - 1 - i) : Nat) : Int) = ((fr + i + rsA cnt num i / ff (cnt - 1 - i) (cnt - 1 - i) : Nat) : Int) := by omega
    have e3 : (fr : Int) + (i : Int) = ((fr + i : Nat) : Int) := by omega
    have s2 : St (zaI h 37 (afill (fr + cnt) (fun j => iI (arA u fr cnt num i j)) B)) := s.aI _ _
    rw [arA]
    generalize rsA cnt num i / ff (cnt - 1 - i) (cnt - 1 - i) = y at hdv hsd e2
    simp (maxSteps := 1000000) (disch := (first | assumption | exact ne_b rfl | omega)) only [↓reduceIte, ↓zlet_eq, ↓bdR_sI, ↓bdR_sJ, ↓bdR_aI, zc2_some, Option.bind_some, ↓si_m1, ↓si_m2, ↓si_m3, iI_lit, iI_add, iI_sub, iI_mul, leT, leF, ltT, ltF, eqT, eqF, zinT, clI, Int.toNat_natCast, tN1, tNa, tN0, tNm, if_pos, if_neg, zI_sI, zI_sJ, zI_sR, zJ_sI, zJ_sJ, zJ_sR, zR_sI, zR_sJ, zR_sR, zK_sI, zK_sJ, zK_sR, zL_sI, zL_sJ, zL_sR, zI_aI, zJ_aI, zR_aI, zK_aI, zL_aI, z2_at, z2_a, z2_k, z1_self, z1_ne, true_and, and_true, bIt, bIf, Bool.false_eq_true, Bool.true_eq_false, eq_self, not_true_eq_false, not_false_eq_true, sK0, sK1, sK2, sK3, sK4, sK5, sK6, sK7, sK8, sK9, sK10, sK11, sK12, sK13, sK14, sK15, sK16, sK17, sK18, sK19, sK20, sK21, sK22, sK23, sK24, sK25, sK26, sK27, sK28, sK29, sK30, sK31, sK32, sK33, sK34, sK35, sK36, sK37, sK38, sK39, sK40, sK41, sK42, sK43, sK44, sK45, sK46, sK47, sK48, sK49, sK50, sK51, sK52, sK53, sK54, sK55, sK56, sK57, sK58, sK59, sK60, sK61, sK62, sK63, sK64, sK65, sK66, sK67, sK68, sK69, sK70, sK71, sK72, sK73, sK74, sK75, sL1, sL3, sL6, sL8, sL9, sL10, sL11, sL12, sL15, sL17, sL18, sL21, sL23, sL24, sL26, sL29, sL31, sL32, sL34, sL36, sL37, sL39, sL40, sL41, sL43, sL45, sL46, sL47, sL48, sL49, sL50, sL51, sL52, sL53, sL55, sL57, sL59, sL61, sL62, sL63, sL64, sL65, sL67, sL68, sL70, sL71, sL73, sL74, sL75, sR0_0, sR0_2, sR0_5, sR0_6, sR0_11, sR2_5, sR2_6, sR2_7, sR4_1, sR4_2, sR4_4, sR7_0, sR7_1, sR13_1, sR13_2, sR13_4, sR16_0, sR16_1, sR19_1, sR19_2, sR19_4, sR22_0, sR22_1, sR25_0, sR25_2, sR25_3, sR25_4, sR25_5, sR25_6, sR25_7, sR25_8, sR25_10, sR27_1, sR27_2, sR27_4, sR30_0, sR30_1, sR33_0, sR35_0, sR35_1, sR38_0, sR38_1, sR38_2, sR42_0, sR42_5, sR42_7, sR42_11, sR42_12, sR42_13, sR53_0, sR53_1, sR53_2, sR53_3, sR54_1, sR56_1, sR58_1, sR60_1, sR65_0, sR65_1, sR65_2, sR66_0, sR66_1, sR69_0, sR69_1, sR72_0, sR72_1, ↓sB0_0, ↓sB0_2, ↓sB0_5, ↓sB0_6, ↓sB0_11, ↓sB2_5, ↓sB2_6, ↓sB2_7, ↓sB4_1, ↓sB4_2, ↓sB4_4, ↓sB7_0, ↓sB7_1, ↓sB13_1, ↓sB13_2, ↓sB13_4, ↓sB16_0, ↓sB16_1, ↓sB19_1, ↓sB19_2, ↓sB19_4, ↓sB22_0, ↓sB22_1, ↓sB25_0, ↓sB25_2, ↓sB25_3, ↓sB25_4, ↓sB25_5, ↓sB25_6, ↓sB25_7, ↓sB25_8, ↓sB25_10, ↓sB27_1, ↓sB27_2, ↓sB27_4, ↓sB30_0, ↓sB30_1, ↓sB33_0, ↓sB35_0, ↓sB35_1, ↓sB38_0, ↓sB38_1, ↓sB38_2, ↓sB42_0, ↓sB42_5, ↓sB42_7, ↓sB42_11, ↓sB42_12, ↓sB42_13, ↓sB53_0, ↓sB53_1, ↓sB53_2, ↓sB53_3, ↓sB54_1, ↓sB56_1, ↓sB58_1, ↓sB60_1, ↓sB65_0, ↓sB65_1, ↓sB65_2, ↓sB66_0, ↓sB66_1, ↓sB69_0, ↓sB69_1, ↓sB72_0, ↓sB72_1, e1, e0, jI_int, hsd, si_remN, e2]
    rw [afill_lt (by omega), e3]
    refine (lp_bd (arrange_in (u := arA u fr cnt num i) (B := B) s1 s (show fr + i ≤ fr + i + y by omega) (show fr + i + y < fr + cnt by omega) hfc)).trans ?_
    show kX3_arrange_68 _ 35 (iI fr) (iI cnt) (iI _) (iI i) (iI ((fr + i : Nat) : Int)) (iI _) 1 (iI ((fr + i : Nat) : Int)) (zaI h 37 _) = _
    unfold kX3_arrange_68
    simp (maxSteps := 1000000) (disch := (first | assumption | exact ne_b rfl | omega)) only [↓reduceIte, ↓zlet_eq, ↓bdR_sI, ↓bdR_sJ, ↓bdR_aI, zc2_some, Option.bind_some, ↓si_m1, ↓si_m2, ↓si_m3, iI_lit, iI_add, iI_sub, iI_mul, leT, leF, ltT, ltF, eqT, eqF, zinT, clI, Int.toNat_natCast, tN1, tNa, tN0, tNm, if_pos, if_neg, zI_sI, zI_sJ, zI_sR, zJ_sI, zJ_sJ, zJ_sR, zR_sI, zR_sJ, zR_sR, zK_sI, zK_sJ, zK_sR, zL_sI, zL_sJ, zL_sR, zI_aI, zJ_aI, zR_aI, zK_aI, zL_aI, z2_at, z2_a, z2_k, z1_self, z1_ne, true_and, and_true, bIt, bIf, Bool.false_eq_true, Bool.true_eq_false, eq_self, not_true_eq_false, not_false_eq_true, sK0, sK1, sK2, sK3, sK4, sK5, sK6, sK7, sK8, sK9, sK10, sK11, sK12, sK13, sK14, sK15, sK16, sK17, sK18, sK19, sK20, sK21, sK22, sK23, sK24, sK25, sK26, sK27, sK28, sK29, sK30, sK31, sK32, sK33, sK34, sK35, sK36, sK37, sK38, sK39, sK40, sK41, sK42, sK43, sK44, sK45, sK46, sK47, sK48, sK49, sK50, sK51, sK52, sK53, sK54, sK55, sK56, sK57, sK58, sK59, sK60, sK61, sK62, sK63, sK64, sK65, sK66, sK67, sK68, sK69, sK70, sK71, sK72, sK73, sK74, sK75, sL1, sL3, sL6, sL8, sL9, sL10, sL11, sL12, sL15, sL17, sL18, sL21, sL23, sL24, sL26, sL29, sL31, sL32, sL34, sL36, sL37, sL39, sL40, sL41, sL43, sL45, sL46, sL47, sL48, sL49, sL50, sL51, sL52, sL53, sL55, sL57, sL59, sL61, sL62, sL63, sL64, sL65, sL67, sL68, sL70, sL71, sL73, sL74, sL75, sR0_0, sR0_2, sR0_5, sR0_6, sR0_11, sR2_5, sR2_6, sR2_7, sR4_1, sR4_2, sR4_4, sR7_0, sR7_1, sR13_1, sR13_2, sR13_4, sR16_0, sR16_1, sR19_1, sR19_2, sR19_4, sR22_0, sR22_1, sR25_0, sR25_2, sR25_3, sR25_4, sR25_5, sR25_6, sR25_7, sR25_8, sR25_10, sR27_1, sR27_2, sR27_4, sR30_0, sR30_1, sR33_0, sR35_0, sR35_1, sR38_0, sR38_1, sR38_2, sR42_0, sR42_5, sR42_7, sR42_11, sR42_12, sR42_13, sR53_0, sR53_1, sR53_2, sR53_3, sR54_1, sR56_1, sR58_1, sR60_1, sR65_0, sR65_1, sR65_2, sR66_0, sR66_1, sR69_0, sR69_1, sR72_0, sR72_1, ↓sB0_0, ↓sB0_2, ↓sB0_5, ↓sB0_6, ↓sB0_11, ↓sB2_5, ↓sB2_6, ↓sB2_7, ↓sB4_1, ↓sB4_2, ↓sB4_4, ↓sB7_0, ↓sB7_1, ↓sB13_1, ↓sB13_2, ↓sB13_4, ↓sB16_0, ↓sB16_1, ↓sB19_1, ↓sB19_2, ↓sB19_4, ↓sB22_0, ↓sB22_1, ↓sB25_0, ↓sB25_2, ↓sB25_3, ↓sB25_4, ↓sB25_5, ↓sB25_6, ↓sB25_7, ↓sB25_8, ↓sB25_10, ↓sB27_1, ↓sB27_2, ↓sB27_4, ↓sB30_0, ↓sB30_1, ↓sB33_0, ↓sB35_0, ↓sB35_1, ↓sB38_0, ↓sB38_1, ↓sB38_2, ↓sB42_0, ↓sB42_5, ↓sB42_7, ↓sB42_11, ↓sB42_12, ↓sB42_13, ↓sB53_0, ↓sB53_1, ↓sB53_2, ↓sB53_3, ↓sB54_1, ↓sB56_1, ↓sB58_1, ↓sB60_1, ↓sB65_0, ↓sB65_1, ↓sB65_2, ↓sB66_0, ↓sB66_1, ↓sB69_0, ↓sB69_1, ↓sB72_0, ↓sB72_1, zsI_aI]
    rw [rot_step (by omega) (by omega)]
    rfl
  · show bX3_arrange_6 (zaI h 37 _) 35 (iI fr) (iI cnt) _ (iI ((cnt - 1 : Nat) : Int)) (zaI h 37 _) = _
    unfold bX3_arrange_6
    simp (maxSteps := 1000000) (disch := (first | assumption | exact ne_b rfl | omega)) only [↓reduceIte, ↓zlet_eq, ↓bdR_sI, ↓bdR_sJ, ↓bdR_aI, zc2_some, Option.bind_some, ↓si_m1, ↓si_m2, ↓si_m3, iI_lit, iI_add, iI_sub, iI_mul, leT, leF, ltT, ltF, eqT, eqF, zinT, clI, Int.toNat_natCast, tN1, tNa, tN0, tNm, if_pos, if_neg, zI_sI, zI_sJ, zI_sR, zJ_sI, zJ_sJ, zJ_sR, zR_sI, zR_sJ, zR_sR, zK_sI, zK_sJ, zK_sR, zL_sI, zL_sJ, zL_sR, zI_aI, zJ_aI, zR_aI, zK_aI, zL_aI, z2_at, z2_a, z2_k, z1_self, z1_ne, true_and, and_true, bIt, bIf, Bool.false_eq_true, Bool.true_eq_false, eq_self, not_true_eq_false, not_false_eq_true]
theorem rwT_lt {t : Tk} (tok : Tok t) {u : Nat → Nat} {v : Nat} (hd : dst u (tsh t)) (hn : ∀ i, i < tsh t → u i < tn t) : rwT t u v < tR t := by
  obtain ⟨bn4, bn12, bu1, bu4, bnu, bk2, bk5, bkn, bp1, bp2, bpk, bH, bsp, bs1, bs4, bT1, bT16, bR1, bR2, bH1, bff, bff1⟩ := tok.b
  have key : ∀ w : Nat → Nat, dst w (tsh t) → (∀ i, i < tsh t → w i < tn t) → ∀ y, y < tT t → rowN (tn t) w (tsh t) * tT t + y < tR t := by
    intro w h1 h2 y hy
    have h3 := rowN_lt (tsh t) h1 h2
    have h4 : (rowN (tn t) w (tsh t) + 1) * tT t ≤ ff (tn t) (tsh t) * tT t := Nat.mul_le_mul_right _ h3
    rw [Nat.add_mul, Nat.one_mul] at h4
    unfold tR
    omega
  unfold rwT
  split
  · obtain ⟨a1, a2⟩ := arA_ok (u := u) (fr := 0) (cnt := tsh t) (num := v % ff (tsh t) (tsh t)) (n := tn t) (by omega) (Nat.mod_lt _ (ff_k _ (by omega)).1) (by simpa using hd) (by simpa using hn) (tsh t) (Nat.le_refl _)
    simp only [Nat.zero_add] at a1 a2
    exact key _ a1 a2 _ (Nat.mod_lt _ (by omega))
  · exact key _ hd hn _ (Nat.mod_lt _ (by omega))
theorem fX3_rowTelling_eq {d v : Nat} {t : Tk} {u : Nat → Nat} {B : Nat → Int32} {h : Zh} (s : St h) (q : Dk h d t) (tok : Tok t) (hd37 : d ≠ 37) (hv : v < 2147483648) (hd : dst u (tsh t)) (hn : ∀ i, i < tsh t → u i < tn t) : ∃ h', fX3_rowTelling 35 d (iI v) (zaI h 37 (afill (tsh t) (fun j => iI (u j)) B)) = some (iI (rwT t u v), h') ∧ Fm [37] h h' := by
  obtain ⟨bn4, bn12, bu1, bu4, bnu, bk2, bk5, bkn, bp1, bp2, bpk, bH, bsp, bs1, bs4, bT1, bT16, bR1, bR2, bH1, bff, bff1⟩ := tok.b
  have hf := ff_k (tsh t) (by omega)
  have hf1 := hf.1
  have hf2 := hf.2.1
  have s1 : ∀ f, St (zaI h 37 f) := fun f => s.aI _ _
  have q1 : ∀ f, Dk (zaI h 37 f) d t := fun f => q.fm (Fm_aI (S := [37]) _ _ (by simp)) (by simp; exact hd37)
  have key : ∀ (w : Nat → Nat) (y : Nat), dst w (tsh t) → (∀ i, i < tsh t → w i < tn t) → y < 2147483648 → jX3_rowTelling_31 (zaI h 37 (afill (tsh t) (fun j => iI (u j)) B)) 35 d (iI y) (zaI h 37 (afill (tsh t) (fun j => iI (w j)) B)) = some (iI ((rowN (tn t) w (tsh t) * tT t + y % tT t : Nat) : Int), zaI h 37 (afill (tsh t) (fun j => iI (w j)) B)) := by
    intro w y h1 h2 hy
    have sw := s1 (afill (tsh t) (fun j => iI (w j)) B)
    have sv := s1 (afill (tsh t) (fun j => iI (u j)) B)
    have qw := q1 (afill (tsh t) (fun j => iI (w j)) B)
    have e0 := fX0_rowNumber_eq (d := d) (r := 37) (n := tn t) (a := tsh t) (L := 5) (w := w) (h := zaI h 37 (afill (tsh t) (fun j => iI (w j)) B)) qw.fK (sK37 sw) (sL37 sw) (by decide) qw.f0 bn12 (by omega) (by omega) (fun i hi => ⟨by rw [zI_aI, z1_self, afill_lt hi], h2 i hi⟩) h1
    have h3 := rowN_lt (tsh t) h1 h2
    unfold jX3_rowTelling_31
    rw [qw.f5, sR35_1 sw, if_pos (sK35 sv), Option.bind_some, e0, zc2_some, qw.f12]
    simp (maxSteps := 1000000) (disch := (first | assumption | exact ne_b rfl | omega)) only [↓reduceIte, ↓zlet_eq, ↓bdR_sI, ↓bdR_sJ, ↓bdR_aI, zc2_some, Option.bind_some, ↓si_m1, ↓si_m2, ↓si_m3, iI_lit, iI_add, iI_sub, iI_mul, leT, leF, ltT, ltF, eqT, eqF, zinT, clI, Int.toNat_natCast, tN1, tNa, tN0, tNm, if_pos, if_neg, zI_sI, zI_sJ, zI_sR, zJ_sI, zJ_sJ, zJ_sR, zR_sI, zR_sJ, zR_sR, zK_sI, zK_sJ, zK_sR, zL_sI, zL_sJ, zL_sR, zI_aI, zJ_aI, zR_aI, zK_aI, zL_aI, z2_at, z2_a, z2_k, z1_self, z1_ne, true_and, and_true, bIt, bIf, Bool.false_eq_true, Bool.true_eq_false, eq_self, not_true_eq_false, not_false_eq_true, si_remN]
    rw [← Int.natCast_mul, ← Int.natCast_add]
  have qu := q1 (afill (tsh t) (fun j => iI (u j)) B)
  have su := s1 (afill (tsh t) (fun j => iI (u j)) B)
  have hdv : v / ff (tsh t) (tsh t) < 2147483648 := Nat.lt_of_le_of_lt (Nat.div_le_self _ _) hv
  unfold fX3_rowTelling rwT
  rw [zlet_eq, if_pos qu.fK, fX0_anyOrder_eq qu, zc2_some]
  cases e : anyO t
  · rw [if_pos (show iI (bI false) = 0 from rfl), if_neg (by decide)]
    exact ⟨_, key u v hd hn hv, Fm_aI _ _ (by simp)⟩
  · rw [if_neg (show ¬ iI (bI true) = 0 by decide), if_pos rfl]
    have e0 := fX3_arrange_eq (fr := 0) (cnt := tsh t) (num := v % ff (tsh t) (tsh t)) (u := u) (B := B) s bs1 (by omega) (Nat.mod_lt _ hf1)
    simp only [Nat.zero_add] at e0
    obtain ⟨a1, a2⟩ := arA_ok (u := u) (fr := 0) (cnt := tsh t) (num := v % ff (tsh t) (tsh t)) (n := tn t) (by omega) (Nat.mod_lt _ hf1) (by simpa using hd) (by simpa using hn) (tsh t) (Nat.le_refl _)
    simp only [Nat.zero_add] at a1 a2
    have qw := q1 (afill (tsh t) (fun j => iI (arA u 0 (tsh t) (v % ff (tsh t) (tsh t)) (tsh t) j)) B)
    refine ⟨zaI h 37 (afill (tsh t) (fun j => iI (arA u 0 (tsh t) (v % ff (tsh t) (tsh t)) (tsh t) j)) B), ?_, Fm_aI _ _ (by simp)⟩
    rw [qu.f11, qu.f5, if_pos (by rw [iI_lit, iI_eq ⟨by omega, by omega⟩ ⟨by omega, by omega⟩]; omega), if_pos (sK35 su), si_remN hv hf1 (by omega), show (0 : Int32) = iI ((0 : Nat) : Int) from rfl, e0, Option.bind_some, qw.f11, if_pos (by rw [iI_eq ⟨by omega, by omega⟩ ⟨by omega, by omega⟩]; omega), zlet_eq, si_divN hv hf1 (by omega)]
    exact key _ _ a1 a2 hdv
theorem fX3_byWords_eq {d x words : Nat} {t : Tk} {h : Zh} (s : St h) (q : Dk h d t) (tok : Tok t) (hx : x < tH t) (hd6 : d ≠ 36) (hd7 : d ≠ 37) (hw : words < 20) : ∃ h', fX3_byWords 35 d (iI (pk t x)) (iI words) h = some (iI (layW t x words), h') ∧ Fm [36, 37] h h' := by
  obtain ⟨bn4, bn12, bu1, bu4, bnu, bk2, bk5, bkn, bp1, bp2, bpk, bH, bsp, bs1, bs4, bT1, bT16, bR1, bR2, bH1, bff, bff1⟩ := tok.b
  obtain ⟨c1, c2, c3⟩ := cS_ok tok hx
  obtain ⟨i1, i2, i3, i4, i5, i6⟩ := kA_in tok hx (words / 5)
  have hol := opn_lt tok hx (words / 5)
  obtain ⟨d1, d2⟩ := shw_ok tok hx (words / 5)
  have hcn := kM_cnt tok hx (words / 5)
  have hkp := kpl_lt tok x (words / 5)
  have htv := tlv_lt tok hx words
  have s1 : St (srH t x h) := s.aI _ _
  have q1 : Dk (srH t x h) d t := q.fm (Fm_aI (S := [36]) _ _ (by simp)) (by simp; exact hd6)
  have hr : ∀ j, j < tk t → zI (srH t x h) 36 j = iI (cS t x j) := fun j hj => by unfold srH; rw [zI_aI, z1_self, afill_lt hj]
  have e1 := fX3_keepPlace_eq (keep := words / 5) s1 q1 tok hx (by omega) hr
  have hlo : kLo t x (words / 5) < tn t := by unfold kLo; omega
  have hhi : kHi t x (words / 5) < tn t := by unfold kHi; omega
  have hkm : (2 ^ kLo t x (words / 5) ||| 2 ^ kHi t x (words / 5)) = kM t x (words / 5) := by
    unfold kLo kHi kM
    rcases Nat.le_total (kA t x (words / 5)) (kB t x (words / 5)) with c | c
    · rw [Nat.min_eq_left c, Nat.max_eq_right c]
    · rw [Nat.min_eq_right c, Nat.max_eq_left c, Nat.or_comm]
  have hkl : kM t x (words / 5) < 4096 := by
    rw [← hkm]
    exact Nat.or_lt_two_pow (n := 12) (Nat.pow_lt_pow_right (by decide) (by omega)) (Nat.pow_lt_pow_right (by decide) (by omega))
  obtain ⟨h', r1, r2⟩ := fX3_rowTelling_eq (d := d) (v := tlv t x words) (u := shw t x (kM t x (words / 5))) (B := zI (srH t x h) 37) s1 q1 tok hd7 (by omega) d1 d2
  have hbs : ∀ c, bsum (opn t x (kM t x (words / 5))) c ≤ c := fun c => bsum_c _ c
  have key : ∀ sec : Nat, sec < tk t → cS t x sec = kB t x (words / 5) → jX3_byWords_38 h 35 d (iI (pk t x)) (iI words) (iI (kpl t x (words / 5))) (iI sec) (srH t x h) = some (iI (layW t x words), h') := by
    intro sec hs1 hs2
    have q2 : Dk (zaI (srH t x h) 37 (afill (tsh t) (fun j => iI (shw t x (kM t x (words / 5)) j)) (zI (srH t x h) 37))) d t := q1.fm (Fm_aI (S := [37]) _ _ (by simp)) (by simp; exact hd7)
    have hA : cS t x (kpl t x (words / 5)) = kA t x (words / 5) := rfl
    have b1 := hr _ hkp
    have b2 := hr _ hs1
    rw [hA] at b1
    rw [hs2] at b2
    have m1 : (if iI (kB t x (words / 5)) < iI (kA t x (words / 5)) then iI (kB t x (words / 5)) else iI (kA t x (words / 5))) = iI (kLo t x (words / 5)) := by
      unfold kLo
      by_cases c : (kB t x (words / 5)) < (kA t x (words / 5))
      · rw [if_pos (by rw [iI_lt ⟨by omega, by omega⟩ ⟨by omega, by omega⟩]; omega), Nat.min_eq_right (by omega)]
      · rw [if_neg (by rw [iI_lt ⟨by omega, by omega⟩ ⟨by omega, by omega⟩]; omega), Nat.min_eq_left (by omega)]
    have m2 : (if iI (kA t x (words / 5)) < iI (kB t x (words / 5)) then iI (kB t x (words / 5)) else iI (kA t x (words / 5))) = iI (kHi t x (words / 5)) := by
      unfold kHi
      by_cases c : (kA t x (words / 5)) < (kB t x (words / 5))
      · rw [if_pos (by rw [iI_lt ⟨by omega, by omega⟩ ⟨by omega, by omega⟩]; omega), Nat.max_eq_right (by omega)]
      · rw [if_neg (by rw [iI_lt ⟨by omega, by omega⟩ ⟨by omega, by omega⟩]; omega), Nat.max_eq_left (by omega)]
    have hrem : zrem (iI (words : Int)) (iI 5) = iI ((words % 5 : Nat) : Int) := si_remN (by omega) (by decide) (by decide)
    have hm5 : words % 5 < 5 := Nat.mod_lt _ (by decide)
    clear i4 i3
    unfold jX3_byWords_38
    by_cases c : tp t = 1
    · have hks : kSm t x (words / 5) = kLo t x (words / 5) := by unfold kSm; rw [if_pos c]
      have htl : tlv t x words = tel t (opn t x (kM t x (words / 5))) (kLo t x (words / 5)) (words % 5) (kLo t x (words / 5)) := by unfold tlv; rw [if_pos c, hks]
      rw [htl] at r1
      simp (maxSteps := 1000000) (disch := (first | assumption | exact ne_b rfl | omega)) only [↓reduceIte, ↓zlet_eq, ↓bdR_sI, ↓bdR_sJ, ↓bdR_aI, zc2_some, Option.bind_some, ↓si_m1, ↓si_m2, ↓si_m3, iI_lit, iI_add, iI_sub, iI_mul, leT, leF, ltT, ltF, eqT, eqF, zinT, clI, Int.toNat_natCast, tN1, tNa, tN0, tNm, if_pos, if_neg, zI_sI, zI_sJ, zI_sR, zJ_sI, zJ_sJ, zJ_sR, zR_sI, zR_sJ, zR_sR, zK_sI, zK_sJ, zK_sR, zL_sI, zL_sJ, zL_sR, zI_aI, zJ_aI, zR_aI, zK_aI, zL_aI, z2_at, z2_a, z2_k, z1_self, z1_ne, true_and, and_true, bIt, bIf, Bool.false_eq_true, Bool.true_eq_false, eq_self, not_true_eq_false, not_false_eq_true, sK0, sK1, sK2, sK3, sK4, sK5, sK6, sK7, sK8, sK9, sK10, sK11, sK12, sK13, sK14, sK15, sK16, sK17, sK18, sK19, sK20, sK21, sK22, sK23, sK24, sK25, sK26, sK27, sK28, sK29, sK30, sK31, sK32, sK33, sK34, sK35, sK36, sK37, sK38, sK39, sK40, sK41, sK42, sK43, sK44, sK45, sK46, sK47, sK48, sK49, sK50, sK51, sK52, sK53, sK54, sK55, sK56, sK57, sK58, sK59, sK60, sK61, sK62, sK63, sK64, sK65, sK66, sK67, sK68, sK69, sK70, sK71, sK72, sK73, sK74, sK75, sL1, sL3, sL6, sL8, sL9, sL10, sL11, sL12, sL15, sL17, sL18, sL21, sL23, sL24, sL26, sL29, sL31, sL32, sL34, sL36, sL37, sL39, sL40, sL41, sL43, sL45, sL46, sL47, sL48, sL49, sL50, sL51, sL52, sL53, sL55, sL57, sL59, sL61, sL62, sL63, sL64, sL65, sL67, sL68, sL70, sL71, sL73, sL74, sL75, sR0_0, sR0_2, sR0_5, sR0_6, sR0_11, sR2_5, sR2_6, sR2_7, sR4_1, sR4_2, sR4_4, sR7_0, sR7_1, sR13_1, sR13_2, sR13_4, sR16_0, sR16_1, sR19_1, sR19_2, sR19_4, sR22_0, sR22_1, sR25_0, sR25_2, sR25_3, sR25_4, sR25_5, sR25_6, sR25_7, sR25_8, sR25_10, sR27_1, sR27_2, sR27_4, sR30_0, sR30_1, sR33_0, sR35_0, sR35_1, sR38_0, sR38_1, sR38_2, sR42_0, sR42_5, sR42_7, sR42_11, sR42_12, sR42_13, sR53_0, sR53_1, sR53_2, sR53_3, sR54_1, sR56_1, sR58_1, sR60_1, sR65_0, sR65_1, sR65_2, sR66_0, sR66_1, sR69_0, sR69_1, sR72_0, sR72_1, ↓sB0_0, ↓sB0_2, ↓sB0_5, ↓sB0_6, ↓sB0_11, ↓sB2_5, ↓sB2_6, ↓sB2_7, ↓sB4_1, ↓sB4_2, ↓sB4_4, ↓sB7_0, ↓sB7_1, ↓sB13_1, ↓sB13_2, ↓sB13_4, ↓sB16_0, ↓sB16_1, ↓sB19_1, ↓sB19_2, ↓sB19_4, ↓sB22_0, ↓sB22_1, ↓sB25_0, ↓sB25_2, ↓sB25_3, ↓sB25_4, ↓sB25_5, ↓sB25_6, ↓sB25_7, ↓sB25_8, ↓sB25_10, ↓sB27_1, ↓sB27_2, ↓sB27_4, ↓sB30_0, ↓sB30_1, ↓sB33_0, ↓sB35_0, ↓sB35_1, ↓sB38_0, ↓sB38_1, ↓sB38_2, ↓sB42_0, ↓sB42_5, ↓sB42_7, ↓sB42_11, ↓sB42_12, ↓sB42_13, ↓sB53_0, ↓sB53_1, ↓sB53_2, ↓sB53_3, ↓sB54_1, ↓sB56_1, ↓sB58_1, ↓sB60_1, ↓sB65_0, ↓sB65_1, ↓sB65_2, ↓sB66_0, ↓sB66_1, ↓sB69_0, ↓sB69_1, ↓sB72_0, ↓sB72_1, b1, b2, m1, m2, si_one, iI_or, hkm, fX3_showOthers_eq s1 q1 tok hx hd7 hkl hcn, hrem, q2.fK, q2.f0, q2.f1, q2.f2, q2.f3, q2.f4, q2.f5, q2.f6, q2.f7, q2.f8, q2.f9, q2.f10, q2.f11, q2.f12, c, fX3_tellOf_eq q2 tok hm5 hlo hol (show kLo t x (words / 5) < 2147483648 by omega) (hbs _), r1]
      unfold layW
      rw [htl]
    · have hks : kSm t x (words / 5) = kLo t x (words / 5) + kHi t x (words / 5) := by unfold kSm; rw [if_neg c]
      have htl : tlv t x words = tel t (opn t x (kM t x (words / 5))) (kLo t x (words / 5) + kHi t x (words / 5)) (words % 5) (kLo t x (words / 5)) * tn t + tel t (opn t x (kM t x (words / 5))) (kLo t x (words / 5) + kHi t x (words / 5)) (words % 5) (kHi t x (words / 5)) := by unfold tlv; rw [if_neg c, hks]
      have r1' : fX3_rowTelling 35 d (iI ((tel t (opn t x (kM t x (words / 5))) (kLo t x (words / 5) + kHi t x (words / 5)) (words % 5) (kLo t x (words / 5)) : Int) * (tn t : Int) + (tel t (opn t x (kM t x (words / 5))) (kLo t x (words / 5) + kHi t x (words / 5)) (words % 5) (kHi t x (words / 5)) : Int))) (zaI (srH t x h) 37 (afill (tsh t) (fun j => iI (shw t x (kM t x (words / 5)) j)) (zI (srH t x h) 37))) = some (iI (rwT t (shw t x (kM t x (words / 5))) (tlv t x words)), h') := by
        rw [← Int.natCast_mul, ← Int.natCast_add, ← htl]
        exact r1
      have e5 : (kLo t x (words / 5) : Int) + (kHi t x (words / 5) : Int) = ((kLo t x (words / 5) + kHi t x (words / 5) : Nat) : Int) := by omega
      simp (maxSteps := 1000000) (disch := (first | assumption | exact ne_b rfl | omega)) only [↓reduceIte, ↓zlet_eq, ↓bdR_sI, ↓bdR_sJ, ↓bdR_aI, zc2_some, Option.bind_some, ↓si_m1, ↓si_m2, ↓si_m3, iI_lit, iI_add, iI_sub, iI_mul, leT, leF, ltT, ltF, eqT, eqF, zinT, clI, Int.toNat_natCast, tN1, tNa, tN0, tNm, if_pos, if_neg, zI_sI, zI_sJ, zI_sR, zJ_sI, zJ_sJ, zJ_sR, zR_sI, zR_sJ, zR_sR, zK_sI, zK_sJ, zK_sR, zL_sI, zL_sJ, zL_sR, zI_aI, zJ_aI, zR_aI, zK_aI, zL_aI, z2_at, z2_a, z2_k, z1_self, z1_ne, true_and, and_true, bIt, bIf, Bool.false_eq_true, Bool.true_eq_false, eq_self, not_true_eq_false, not_false_eq_true, sK0, sK1, sK2, sK3, sK4, sK5, sK6, sK7, sK8, sK9, sK10, sK11, sK12, sK13, sK14, sK15, sK16, sK17, sK18, sK19, sK20, sK21, sK22, sK23, sK24, sK25, sK26, sK27, sK28, sK29, sK30, sK31, sK32, sK33, sK34, sK35, sK36, sK37, sK38, sK39, sK40, sK41, sK42, sK43, sK44, sK45, sK46, sK47, sK48, sK49, sK50, sK51, sK52, sK53, sK54, sK55, sK56, sK57, sK58, sK59, sK60, sK61, sK62, sK63, sK64, sK65, sK66, sK67, sK68, sK69, sK70, sK71, sK72, sK73, sK74, sK75, sL1, sL3, sL6, sL8, sL9, sL10, sL11, sL12, sL15, sL17, sL18, sL21, sL23, sL24, sL26, sL29, sL31, sL32, sL34, sL36, sL37, sL39, sL40, sL41, sL43, sL45, sL46, sL47, sL48, sL49, sL50, sL51, sL52, sL53, sL55, sL57, sL59, sL61, sL62, sL63, sL64, sL65, sL67, sL68, sL70, sL71, sL73, sL74, sL75, sR0_0, sR0_2, sR0_5, sR0_6, sR0_11, sR2_5, sR2_6, sR2_7, sR4_1, sR4_2, sR4_4, sR7_0, sR7_1, sR13_1, sR13_2, sR13_4, sR16_0, sR16_1, sR19_1, sR19_2, sR19_4, sR22_0, sR22_1, sR25_0, sR25_2, sR25_3, sR25_4, sR25_5, sR25_6, sR25_7, sR25_8, sR25_10, sR27_1, sR27_2, sR27_4, sR30_0, sR30_1, sR33_0, sR35_0, sR35_1, sR38_0, sR38_1, sR38_2, sR42_0, sR42_5, sR42_7, sR42_11, sR42_12, sR42_13, sR53_0, sR53_1, sR53_2, sR53_3, sR54_1, sR56_1, sR58_1, sR60_1, sR65_0, sR65_1, sR65_2, sR66_0, sR66_1, sR69_0, sR69_1, sR72_0, sR72_1, ↓sB0_0, ↓sB0_2, ↓sB0_5, ↓sB0_6, ↓sB0_11, ↓sB2_5, ↓sB2_6, ↓sB2_7, ↓sB4_1, ↓sB4_2, ↓sB4_4, ↓sB7_0, ↓sB7_1, ↓sB13_1, ↓sB13_2, ↓sB13_4, ↓sB16_0, ↓sB16_1, ↓sB19_1, ↓sB19_2, ↓sB19_4, ↓sB22_0, ↓sB22_1, ↓sB25_0, ↓sB25_2, ↓sB25_3, ↓sB25_4, ↓sB25_5, ↓sB25_6, ↓sB25_7, ↓sB25_8, ↓sB25_10, ↓sB27_1, ↓sB27_2, ↓sB27_4, ↓sB30_0, ↓sB30_1, ↓sB33_0, ↓sB35_0, ↓sB35_1, ↓sB38_0, ↓sB38_1, ↓sB38_2, ↓sB42_0, ↓sB42_5, ↓sB42_7, ↓sB42_11, ↓sB42_12, ↓sB42_13, ↓sB53_0, ↓sB53_1, ↓sB53_2, ↓sB53_3, ↓sB54_1, ↓sB56_1, ↓sB58_1, ↓sB60_1, ↓sB65_0, ↓sB65_1, ↓sB65_2, ↓sB66_0, ↓sB66_1, ↓sB69_0, ↓sB69_1, ↓sB72_0, ↓sB72_1, b1, b2, m1, m2, si_one, iI_or, hkm, fX3_showOthers_eq s1 q1 tok hx hd7 hkl hcn, hrem, q2.fK, q2.f0, q2.f1, q2.f2, q2.f3, q2.f4, q2.f5, q2.f6, q2.f7, q2.f8, q2.f9, q2.f10, q2.f11, q2.f12, e5, fX3_tellOf_eq q2 tok hm5 hlo hol (show kLo t x (words / 5) + kHi t x (words / 5) < 2147483648 by omega) (hbs _), fX3_tellOf_eq q2 tok hm5 hhi hol (show kLo t x (words / 5) + kHi t x (words / 5) < 2147483648 by omega) (hbs _), r1']
      rfl
  refine ⟨h', ?_, (Fm_aI _ _ (by simp)).tr (r2.mono (by simp))⟩
  unfold fX3_byWords
  rw [zlet_eq, if_pos (sK35 s), fX3_sortHand_eq s q tok hx hd6, Option.bind_some, if_pos (by decide), show iI (words : Int) / (5 : Int32) = iI ((words / 5 : Nat) : Int) from si_divN (by omega) (by decide) (by decide), e1, zc2_some, if_pos q.fK, q1.f4]
  by_cases c : tp t = 2
  · have hB : kB t x (words / 5) = cS t x ((kpl t x (words / 5) + 1) % tk t) := by unfold kB; rw [if_pos c]
    rw [if_pos (by rw [c]; rfl), q1.f3, if_pos (by rw [iI_lit, iI_eq ⟨by omega, by omega⟩ ⟨by omega, by omega⟩]; omega), iI_lit, iI_add]
    rw [show ((kpl t x (words / 5) : Nat) : Int) + OfNat.ofNat 1 = ((kpl t x (words / 5) + 1 : Nat) : Int) from rfl, si_remN (by omega) (by omega) (by omega)]
    exact key _ (Nat.mod_lt _ (by omega)) hB.symm
  · rw [if_neg (by rw [show (2 : Int32) = iI ((2 : Nat) : Int) from rfl, iI_eq ⟨by omega, by omega⟩ ⟨by omega, by omega⟩]; omega)]
    exact key _ hkp (i4 (by omega))
