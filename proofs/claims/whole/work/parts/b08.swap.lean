/-! two cards changed about -/
theorem sw_bits : ∀ a : Nat, a < 16 → ∀ i : Nat, i < 3 → iI a ^^^ ((((iI a >>> (iI i &&& 31)) ^^^ (iI a >>> (iI ((i + 1 : Nat) : Int) &&& 31))) &&& iI 1) * (iI 3 <<< (iI i &&& 31))) = iI (swT a i) := by decide +kernel
theorem sw_lt : ∀ s : Nat, s < 5 → ∀ a : Nat, a < 2 ^ s → ∀ i : Nat, i < 4 → i + 1 < s → swT a i < 2 ^ s := by decide +kernel
theorem sw_0 : ∀ i : Nat, i < 4 → swT 0 i = 0 := by decide +kernel
theorem swT_lt {t : Tk} (tok : Tok t) {a i : Nat} (ha : a < tT t) (hi : i + 1 < tsh t) : swT a i < tT t := by
  obtain ⟨bn4, bn12, bu1, bu4, bnu, bk2, bk5, bkn, bp1, bp2, bpk, bH, bsp, bs1, bs4, bT1, bT16, bR1, bR2, bH1, bff, bff1⟩ := tok.b
  unfold tT at ha ⊢
  cases e : tti t
  · rw [e, if_neg (by decide)] at ha
    rw [if_neg (by decide)]
    have : a = 0 := by omega
    rw [this, sw_0 i (by omega)]
    decide
  · rw [e, if_pos rfl] at ha
    rw [if_pos rfl]
    exact sw_lt (tsh t) (by omega) a ha i (by omega) hi
theorem swC_d {w : Nat → Nat} {n i : Nat} (h : dst w n) (hi : i + 1 < n) : dst (swC w i) n := by
  intro a b hab hb e
  unfold swC at e
  by_cases c1 : a = i
  · rw [if_pos c1] at e
    have c2 : ¬ b = i := by omega
    rw [if_neg c2] at e
    by_cases c3 : b = i + 1
    · rw [if_pos c3] at e
      exact h i (i + 1) (by omega) (by omega) e.symm
    · rw [if_neg c3] at e
      exact h (i + 1) b (by omega) hb e
  · rw [if_neg c1] at e
    by_cases c2 : a = i + 1
    · rw [if_pos c2, if_neg (show ¬ b = i by omega), if_neg (show ¬ b = i + 1 by omega)] at e
      exact h i b (by omega) hb e
    · rw [if_neg c2] at e
      by_cases c3 : b = i
      · rw [if_pos c3] at e
        exact h a (i + 1) (by omega) (by omega) e
      · rw [if_neg c3] at e
        by_cases c4 : b = i + 1
        · rw [if_pos c4] at e
          exact h a i (by omega) (by omega) e
        · rw [if_neg c4] at e
          exact h a b hab hb e
theorem swC_lt {w : Nat → Nat} {n m i : Nat} (h : ∀ j, j < n → w j < m) (hi : i + 1 < n) : ∀ j, j < n → swC w i j < m := by
  intro j hj
  unfold swC
  split
  · exact h _ hi
  · split
    · exact h _ (by omega)
    · exact h j hj
theorem swC_sw (w : Nat → Nat) (i j : Nat) : swC (swC w i) i j = w j := by
  unfold swC
  by_cases c1 : j = i
  · rw [if_pos c1, if_neg (by omega), if_pos rfl, c1]
  · rw [if_neg c1]
    by_cases c2 : j = i + 1
    · rw [if_pos c2, if_pos rfl, c2]
    · rw [if_neg c2, if_neg c1, if_neg c2]
theorem swR_lt {t : Tk} (tok : Tok t) {r i : Nat} (hi : i + 1 < tsh t) : swR t r i < tR t := by
  obtain ⟨bn4, bn12, bu1, bu4, bnu, bk2, bk5, bkn, bp1, bp2, bpk, bH, bsp, bs1, bs4, bT1, bT16, bR1, bR2, bH1, bff, bff1⟩ := tok.b
  obtain ⟨u1, u2⟩ := unp_ok (n := tn t) (sh := tsh t) (q := r / tT t) (by omega)
  exact at_lt (rowN_lt (tsh t) (swC_d u1 hi) (swC_lt u2 hi)) (swT_lt tok (Nat.mod_lt r (by omega)) hi)
theorem swR_ne {t : Tk} (tok : Tok t) {r i j : Nat} (hij : i < j) (hj : j + 1 < tsh t) : swR t r i ≠ swR t r j := by
  obtain ⟨bn4, bn12, bu1, bu4, bnu, bk2, bk5, bkn, bp1, bp2, bpk, bH, bsp, bs1, bs4, bT1, bT16, bR1, bR2, bH1, bff, bff1⟩ := tok.b
  intro e
  obtain ⟨u1, u2⟩ := unp_ok (n := tn t) (sh := tsh t) (q := r / tT t) (by omega)
  have hm := Nat.mod_lt r (show tT t > 0 by omega)
  have a1 := row_div (a := rowN (tn t) (swC (unp (tn t) (tsh t) (r / tT t)) i) (tsh t)) (show 0 < tT t by omega) (swT_lt tok hm (show i + 1 < tsh t by omega))
  have a2 := row_div (a := rowN (tn t) (swC (unp (tn t) (tsh t) (r / tT t)) j) (tsh t)) (show 0 < tT t by omega) (swT_lt tok hm hj)
  have e2 : rowN (tn t) (swC (unp (tn t) (tsh t) (r / tT t)) i) (tsh t) = rowN (tn t) (swC (unp (tn t) (tsh t) (r / tT t)) j) (tsh t) := by
    rw [← a1, ← a2]
    unfold swR at e
    rw [e]
  have e3 := rowN_inj (swC_d u1 (by omega)) (swC_lt u2 (by omega)) (swC_d u1 hj) (swC_lt u2 hj) e2 i (by omega)
  unfold swC at e3
  rw [if_pos rfl, if_neg (by omega), if_neg (by omega)] at e3
  exact u1 i (i + 1) (by omega) (by omega) e3.symm
theorem fX4_swapCards_eq {h : Zh} {w : Nat → Nat} {i n : Nat} (s : St h) (hi : i + 1 < n) (hn : n ≤ 5) (hw : ∀ j, j < n → zI h 64 j = iI (w j)) : ∃ h', fX4_swapCards 25 (iI i) h = some h' ∧ Fm [64] h h' ∧ ∀ j, j < n → zI h' 64 j = iI (swC w i j) := by
  have w1 := hw i (by omega)
  have w2 := hw (i + 1) hi
  have n1 : i ≠ i + 1 := by omega
  have n2 : i + 1 ≠ i := by omega
  have e1 : (i : Int) + 1 = ((i + 1 : Nat) : Int) := by omega
  refine ⟨zsI (zsI h 64 i (iI (w (i + 1)))) 64 (i + 1) (iI (w i)), ?_, (Fm_sI _ _ _ (by simp)).tr (Fm_sI _ _ _ (by simp)), fun j hj => ?_⟩
  · unfold fX4_swapCards
    simp (maxSteps := 1000000) (disch := (first | assumption | exact ne_b rfl | omega)) only [↓reduceIte, ↓zlet_eq, ↓bdR_sI, ↓bdR_sJ, ↓bdR_aI, zc2_some, Option.bind_some, ↓si_m1, ↓si_m2, ↓si_m3, iI_lit, iI_add, iI_sub, iI_mul, leT, leF, ltT, ltF, eqT, eqF, zinT, clI, Int.toNat_natCast, Int.reduceToNat, tN1, tNa, tN0, tNm, if_pos, if_neg, zI_sI, zI_sJ, zI_sR, zJ_sI, zJ_sJ, zJ_sR, zR_sI, zR_sJ, zR_sR, zK_sI, zK_sJ, zK_sR, zL_sI, zL_sJ, zL_sR, zI_aI, zJ_aI, zR_aI, zK_aI, zL_aI, z2_at, z2_a, z2_k, z1_self, z1_ne, true_and, and_true, bIt, bIf, Bool.false_eq_true, Bool.true_eq_false, eq_self, not_true_eq_false, not_false_eq_true, sK0, sK1, sK2, sK3, sK4, sK5, sK6, sK7, sK8, sK9, sK10, sK11, sK12, sK13, sK14, sK15, sK16, sK17, sK18, sK19, sK20, sK21, sK22, sK23, sK24, sK25, sK26, sK27, sK28, sK29, sK30, sK31, sK32, sK33, sK34, sK35, sK36, sK37, sK38, sK39, sK40, sK41, sK42, sK43, sK44, sK45, sK46, sK47, sK48, sK49, sK50, sK51, sK52, sK53, sK54, sK55, sK56, sK57, sK58, sK59, sK60, sK61, sK62, sK63, sK64, sK65, sK66, sK67, sK68, sK69, sK70, sK71, sK72, sK73, sK74, sK75, sL1, sL3, sL6, sL8, sL9, sL10, sL11, sL12, sL15, sL17, sL18, sL21, sL23, sL24, sL26, sL29, sL31, sL32, sL34, sL36, sL37, sL39, sL40, sL41, sL43, sL45, sL46, sL47, sL48, sL49, sL50, sL51, sL52, sL53, sL55, sL57, sL59, sL61, sL62, sL63, sL64, sL65, sL67, sL68, sL70, sL71, sL73, sL74, sL75, sR0_0, sR0_2, sR0_5, sR0_6, sR0_11, sR2_5, sR2_6, sR2_7, sR4_1, sR4_2, sR4_4, sR7_0, sR7_1, sR13_1, sR13_2, sR13_4, sR16_0, sR16_1, sR19_1, sR19_2, sR19_4, sR22_0, sR22_1, sR25_0, sR25_2, sR25_3, sR25_4, sR25_5, sR25_6, sR25_7, sR25_8, sR25_10, sR27_1, sR27_2, sR27_4, sR30_0, sR30_1, sR33_0, sR35_0, sR35_1, sR38_0, sR38_1, sR38_2, sR42_0, sR42_5, sR42_7, sR42_11, sR42_12, sR42_13, sR53_0, sR53_1, sR53_2, sR53_3, sR54_1, sR56_1, sR58_1, sR60_1, sR65_0, sR65_1, sR65_2, sR66_0, sR66_1, sR69_0, sR69_1, sR72_0, sR72_1, ↓sB0_0, ↓sB0_2, ↓sB0_5, ↓sB0_6, ↓sB0_11, ↓sB2_5, ↓sB2_6, ↓sB2_7, ↓sB4_1, ↓sB4_2, ↓sB4_4, ↓sB7_0, ↓sB7_1, ↓sB13_1, ↓sB13_2, ↓sB13_4, ↓sB16_0, ↓sB16_1, ↓sB19_1, ↓sB19_2, ↓sB19_4, ↓sB22_0, ↓sB22_1, ↓sB25_0, ↓sB25_2, ↓sB25_3, ↓sB25_4, ↓sB25_5, ↓sB25_6, ↓sB25_7, ↓sB25_8, ↓sB25_10, ↓sB27_1, ↓sB27_2, ↓sB27_4, ↓sB30_0, ↓sB30_1, ↓sB33_0, ↓sB35_0, ↓sB35_1, ↓sB38_0, ↓sB38_1, ↓sB38_2, ↓sB42_0, ↓sB42_5, ↓sB42_7, ↓sB42_11, ↓sB42_12, ↓sB42_13, ↓sB53_0, ↓sB53_1, ↓sB53_2, ↓sB53_3, ↓sB54_1, ↓sB56_1, ↓sB58_1, ↓sB60_1, ↓sB65_0, ↓sB65_1, ↓sB65_2, ↓sB66_0, ↓sB66_1, ↓sB69_0, ↓sB69_1, ↓sB72_0, ↓sB72_1, w1, w2, e1]
  · unfold swC
    by_cases c1 : j = i
    · rw [if_pos c1, c1, zI_sI, z2_k _ _ _ n1, zI_sI, z2_at]
    · rw [if_neg c1]
      by_cases c2 : j = i + 1
      · rw [if_pos c2, c2, zI_sI, z2_at]
      · rw [if_neg c2, zI_sI, z2_k _ _ _ c2, zI_sI, z2_k _ _ _ c1]
        exact hw j hj
theorem fX4_swapped_eq {h : Zh} {td : Nat} {t : Tk} {rc : Nat} {ru : Nat → Nat} {r i : Nat} (tok : Tok t) (s : St h) (r1 : zR h 25 1 = some td) (tdh : TD h td t rc ru) (hi : i + 1 < tsh t) (hw : ∀ j, j < tsh t → zI h 64 j = iI (unp (tn t) (tsh t) (r / tT t) j)) : ∃ h', fX4_swapped 25 (iI ((r % tT t : Nat) : Int)) (iI i) h = some (iI (swR t r i), h') ∧ Fm [64] h h' ∧ ∀ j, j < tsh t → zI h' 64 j = iI (unp (tn t) (tsh t) (r / tT t) j) := by
  obtain ⟨bn4, bn12, bu1, bu4, bnu, bk2, bk5, bkn, bp1, bp2, bpk, bH, bsp, bs1, bs4, bT1, bT16, bR1, bR2, bH1, bff, bff1⟩ := tok.b
  obtain ⟨u1, u2⟩ := unp_ok (n := tn t) (sh := tsh t) (q := r / tT t) (by omega)
  have hm := Nat.mod_lt r (show tT t > 0 by omega)
  obtain ⟨h2, p1, p2, p3⟩ := fX4_swapCards_eq s hi (by omega) hw
  have s2 := s.fm p2
  obtain ⟨h3, q1, q2, q3⟩ := fX4_swapCards_eq s2 hi (by omega) p3
  have s3 := s2.fm q2
  have td2 := tdh.fm p2 (by simp)
  have td3 := td2.fm q2 (by simp)
  have dk0 := tdh.2.2.1
  have dk2 := td2.2.2.1
  have dk3 := td3.2.2.1
  obtain ⟨t1, t2, -⟩ := tdS s tdh.1
  obtain ⟨-, t22, -⟩ := tdS s2 tdh.1
  obtain ⟨-, t23, -⟩ := tdS s3 tdh.1
  have r12 : zR h2 25 1 = some td := by rw [p2.R]; exact r1
  have r13 : zR h3 25 1 = some td := by rw [q2.R]; exact r12
  have er := fX0_rowNumber_eq (d := td + 1) (r := 64) (n := tn t) (a := tsh t) (L := 5) (w := swC (unp (tn t) (tsh t) (r / tT t)) i) (h := h2) dk2.fK (sK64 s2) (sL64 s2) (by decide) dk2.f0 bn12 (by omega) (by omega) (fun j hj => ⟨p3 j hj, swC_lt u2 hi j hj⟩) (swC_d u1 hi)
  refine ⟨h3, ?_, p2.tr q2, fun j hj => by rw [q3 j hj, swC_sw]⟩
  have hb := sw_bits (r % tT t) (by omega) i (by omega)
  have hf5 := dk2.f5
  have hf12 := dk3.f12
  have e1 : (i : Int) + 1 = ((i + 1 : Nat) : Int) := by omega
  unfold fX4_swapped swR
  simp (maxSteps := 1000000) (disch := (first | assumption | exact ne_b rfl | omega)) only [↓reduceIte, ↓zlet_eq, ↓bdR_sI, ↓bdR_sJ, ↓bdR_aI, zc2_some, Option.bind_some, ↓si_m1, ↓si_m2, ↓si_m3, iI_lit, iI_add, iI_sub, iI_mul, leT, leF, ltT, ltF, eqT, eqF, zinT, clI, Int.toNat_natCast, Int.reduceToNat, tN1, tNa, tN0, tNm, if_pos, if_neg, zI_sI, zI_sJ, zI_sR, zJ_sI, zJ_sJ, zJ_sR, zR_sI, zR_sJ, zR_sR, zK_sI, zK_sJ, zK_sR, zL_sI, zL_sJ, zL_sR, zI_aI, zJ_aI, zR_aI, zK_aI, zL_aI, z2_at, z2_a, z2_k, z1_self, z1_ne, true_and, and_true, bIt, bIf, Bool.false_eq_true, Bool.true_eq_false, eq_self, not_true_eq_false, not_false_eq_true, sK0, sK1, sK2, sK3, sK4, sK5, sK6, sK7, sK8, sK9, sK10, sK11, sK12, sK13, sK14, sK15, sK16, sK17, sK18, sK19, sK20, sK21, sK22, sK23, sK24, sK25, sK26, sK27, sK28, sK29, sK30, sK31, sK32, sK33, sK34, sK35, sK36, sK37, sK38, sK39, sK40, sK41, sK42, sK43, sK44, sK45, sK46, sK47, sK48, sK49, sK50, sK51, sK52, sK53, sK54, sK55, sK56, sK57, sK58, sK59, sK60, sK61, sK62, sK63, sK64, sK65, sK66, sK67, sK68, sK69, sK70, sK71, sK72, sK73, sK74, sK75, sL1, sL3, sL6, sL8, sL9, sL10, sL11, sL12, sL15, sL17, sL18, sL21, sL23, sL24, sL26, sL29, sL31, sL32, sL34, sL36, sL37, sL39, sL40, sL41, sL43, sL45, sL46, sL47, sL48, sL49, sL50, sL51, sL52, sL53, sL55, sL57, sL59, sL61, sL62, sL63, sL64, sL65, sL67, sL68, sL70, sL71, sL73, sL74, sL75, sR0_0, sR0_2, sR0_5, sR0_6, sR0_11, sR2_5, sR2_6, sR2_7, sR4_1, sR4_2, sR4_4, sR7_0, sR7_1, sR13_1, sR13_2, sR13_4, sR16_0, sR16_1, sR19_1, sR19_2, sR19_4, sR22_0, sR22_1, sR25_0, sR25_2, sR25_3, sR25_4, sR25_5, sR25_6, sR25_7, sR25_8, sR25_10, sR27_1, sR27_2, sR27_4, sR30_0, sR30_1, sR33_0, sR35_0, sR35_1, sR38_0, sR38_1, sR38_2, sR42_0, sR42_5, sR42_7, sR42_11, sR42_12, sR42_13, sR53_0, sR53_1, sR53_2, sR53_3, sR54_1, sR56_1, sR58_1, sR60_1, sR65_0, sR65_1, sR65_2, sR66_0, sR66_1, sR69_0, sR69_1, sR72_0, sR72_1, ↓sB0_0, ↓sB0_2, ↓sB0_5, ↓sB0_6, ↓sB0_11, ↓sB2_5, ↓sB2_6, ↓sB2_7, ↓sB4_1, ↓sB4_2, ↓sB4_4, ↓sB7_0, ↓sB7_1, ↓sB13_1, ↓sB13_2, ↓sB13_4, ↓sB16_0, ↓sB16_1, ↓sB19_1, ↓sB19_2, ↓sB19_4, ↓sB22_0, ↓sB22_1, ↓sB25_0, ↓sB25_2, ↓sB25_3, ↓sB25_4, ↓sB25_5, ↓sB25_6, ↓sB25_7, ↓sB25_8, ↓sB25_10, ↓sB27_1, ↓sB27_2, ↓sB27_4, ↓sB30_0, ↓sB30_1, ↓sB33_0, ↓sB35_0, ↓sB35_1, ↓sB38_0, ↓sB38_1, ↓sB38_2, ↓sB42_0, ↓sB42_5, ↓sB42_7, ↓sB42_11, ↓sB42_12, ↓sB42_13, ↓sB53_0, ↓sB53_1, ↓sB53_2, ↓sB53_3, ↓sB54_1, ↓sB56_1, ↓sB58_1, ↓sB60_1, ↓sB65_0, ↓sB65_1, ↓sB65_2, ↓sB66_0, ↓sB66_1, ↓sB69_0, ↓sB69_1, ↓sB72_0, ↓sB72_1, ↓bd_of p1, ↓bd_of r12, ↓bd_of t22, ↓bd_of r13, ↓bd_of t23, t1, dk0.fK, hf5, ↓zc_of er, ↓bd_of q1, hf12, e1]
  rw [show (iI 31 : Int32) = 31 from rfl, hb, iI_add]
  rfl
