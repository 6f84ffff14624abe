/-! the ledger begins anew with a trick -/
theorem clear2_eq {h : Zh} {i : Nat} (s : St h) (hi : i < 4) : ∃ h', fX2_clear (54 + 2 * i) h = some h' ∧ Fm [54 + 2 * i] h h' ∧ zI h' (54 + 2 * i) 0 = zI h (54 + 2 * i) 0 ∧ zI h' (54 + 2 * i) 2 = iI 0 ∧ zI h' (54 + 2 * i) 3 = iI 0 ∧ zI h' (54 + 2 * i) 4 = iI 0 ∧ zI h' (54 + 2 * i) 5 = iI (-2) ∧ zI h' (54 + 2 * i) 6 = iI (-2) ∧ zI h' (54 + 2 * i) 7 = iI 0 := by
  obtain ⟨-, d2, -⟩ := ldS s hi
  refine ⟨zsI (zsI (zsI (zsI (zsI (zsI (zsI (zsI h (54 + 2 * i) 2 (iI 0)) (54 + 2 * i) 3 (iI 0)) (54 + 2 * i) 4 (iI 0)) (54 + 2 * i) 5 (iI (-2))) (54 + 2 * i) 6 (iI (-2))) (54 + 2 * i) 7 (iI 0)) (54 + 2 * i) 8 (iI 0)) (54 + 2 * i) 9 (iI 0), ?_, (((((((Fm_sI _ _ _ (by simp)).tr (Fm_sI _ _ _ (by simp))).tr (Fm_sI _ _ _ (by simp))).tr (Fm_sI _ _ _ (by simp))).tr (Fm_sI _ _ _ (by simp))).tr (Fm_sI _ _ _ (by simp))).tr (Fm_sI _ _ _ (by simp))).tr (Fm_sI _ _ _ (by simp)), ?_, ?_, ?_, ?_, ?_, ?_, ?_⟩
  · unfold fX2_clear
    simp (maxSteps := 1000000) (disch := (first | assumption | exact ne_b rfl | omega)) only [↓reduceIte, ↓zlet_eq, ↓bdR_sI, ↓bdR_sJ, ↓bdR_aI, zc2_some, Option.bind_some, ↓si_m1, ↓si_m2, ↓si_m3, iI_lit, iI_add, iI_sub, iI_mul, leT, leF, ltT, ltF, eqT, eqF, zinT, clI, Int.toNat_natCast, Int.reduceToNat, tN1, tNa, tN0, tNm, if_pos, if_neg, zI_sI, zI_sJ, zI_sR, zJ_sI, zJ_sJ, zJ_sR, zR_sI, zR_sJ, zR_sR, zK_sI, zK_sJ, zK_sR, zL_sI, zL_sJ, zL_sR, zI_aI, zJ_aI, zR_aI, zK_aI, zL_aI, z2_at, z2_a, z2_k, z1_self, z1_ne, true_and, and_true, bIt, bIf, Bool.false_eq_true, Bool.true_eq_false, eq_self, not_true_eq_false, not_false_eq_true, d2]
  · simp (maxSteps := 1000000) (disch := (first | assumption | exact ne_b rfl | omega)) only [↓reduceIte, ↓zlet_eq, ↓bdR_sI, ↓bdR_sJ, ↓bdR_aI, zc2_some, Option.bind_some, ↓si_m1, ↓si_m2, ↓si_m3, iI_lit, iI_add, iI_sub, iI_mul, leT, leF, ltT, ltF, eqT, eqF, zinT, clI, Int.toNat_natCast, Int.reduceToNat, tN1, tNa, tN0, tNm, if_pos, if_neg, zI_sI, zI_sJ, zI_sR, zJ_sI, zJ_sJ, zJ_sR, zR_sI, zR_sJ, zR_sR, zK_sI, zK_sJ, zK_sR, zL_sI, zL_sJ, zL_sR, zI_aI, zJ_aI, zR_aI, zK_aI, zL_aI, z2_at, z2_a, z2_k, z1_self, z1_ne, true_and, and_true, bIt, bIf, Bool.false_eq_true, Bool.true_eq_false, eq_self, not_true_eq_false, not_false_eq_true]
  · simp (maxSteps := 1000000) (disch := (first | assumption | exact ne_b rfl | omega)) only [↓reduceIte, ↓zlet_eq, ↓bdR_sI, ↓bdR_sJ, ↓bdR_aI, zc2_some, Option.bind_some, ↓si_m1, ↓si_m2, ↓si_m3, iI_lit, iI_add, iI_sub, iI_mul, leT, leF, ltT, ltF, eqT, eqF, zinT, clI, Int.toNat_natCast, Int.reduceToNat, tN1, tNa, tN0, tNm, if_pos, if_neg, zI_sI, zI_sJ, zI_sR, zJ_sI, zJ_sJ, zJ_sR, zR_sI, zR_sJ, zR_sR, zK_sI, zK_sJ, zK_sR, zL_sI, zL_sJ, zL_sR, zI_aI, zJ_aI, zR_aI, zK_aI, zL_aI, z2_at, z2_a, z2_k, z1_self, z1_ne, true_and, and_true, bIt, bIf, Bool.false_eq_true, Bool.true_eq_false, eq_self, not_true_eq_false, not_false_eq_true]
  · simp (maxSteps := 1000000) (disch := (first | assumption | exact ne_b rfl | omega)) only [↓reduceIte, ↓zlet_eq, ↓bdR_sI, ↓bdR_sJ, ↓bdR_aI, zc2_some, Option.bind_some, ↓si_m1, ↓si_m2, ↓si_m3, iI_lit, iI_add, iI_sub, iI_mul, leT, leF, ltT, ltF, eqT, eqF, zinT, clI, Int.toNat_natCast, Int.reduceToNat, tN1, tNa, tN0, tNm, if_pos, if_neg, zI_sI, zI_sJ, zI_sR, zJ_sI, zJ_sJ, zJ_sR, zR_sI, zR_sJ, zR_sR, zK_sI, zK_sJ, zK_sR, zL_sI, zL_sJ, zL_sR, zI_aI, zJ_aI, zR_aI, zK_aI, zL_aI, z2_at, z2_a, z2_k, z1_self, z1_ne, true_and, and_true, bIt, bIf, Bool.false_eq_true, Bool.true_eq_false, eq_self, not_true_eq_false, not_false_eq_true]
  · simp (maxSteps := 1000000) (disch := (first | assumption | exact ne_b rfl | omega)) only [↓reduceIte, ↓zlet_eq, ↓bdR_sI, ↓bdR_sJ, ↓bdR_aI, zc2_some, Option.bind_some, ↓si_m1, ↓si_m2, ↓si_m3, iI_lit, iI_add, iI_sub, iI_mul, leT, leF, ltT, ltF, eqT, eqF, zinT, clI, Int.toNat_natCast, Int.reduceToNat, tN1, tNa, tN0, tNm, if_pos, if_neg, zI_sI, zI_sJ, zI_sR, zJ_sI, zJ_sJ, zJ_sR, zR_sI, zR_sJ, zR_sR, zK_sI, zK_sJ, zK_sR, zL_sI, zL_sJ, zL_sR, zI_aI, zJ_aI, zR_aI, zK_aI, zL_aI, z2_at, z2_a, z2_k, z1_self, z1_ne, true_and, and_true, bIt, bIf, Bool.false_eq_true, Bool.true_eq_false, eq_self, not_true_eq_false, not_false_eq_true]
  · simp (maxSteps := 1000000) (disch := (first | assumption | exact ne_b rfl | omega)) only [↓reduceIte, ↓zlet_eq, ↓bdR_sI, ↓bdR_sJ, ↓bdR_aI, zc2_some, Option.bind_some, ↓si_m1, ↓si_m2, ↓si_m3, iI_lit, iI_add, iI_sub, iI_mul, leT, leF, ltT, ltF, eqT, eqF, zinT, clI, Int.toNat_natCast, Int.reduceToNat, tN1, tNa, tN0, tNm, if_pos, if_neg, zI_sI, zI_sJ, zI_sR, zJ_sI, zJ_sJ, zJ_sR, zR_sI, zR_sJ, zR_sR, zK_sI, zK_sJ, zK_sR, zL_sI, zL_sJ, zL_sR, zI_aI, zJ_aI, zR_aI, zK_aI, zL_aI, z2_at, z2_a, z2_k, z1_self, z1_ne, true_and, and_true, bIt, bIf, Bool.false_eq_true, Bool.true_eq_false, eq_self, not_true_eq_false, not_false_eq_true]
  · simp (maxSteps := 1000000) (disch := (first | assumption | exact ne_b rfl | omega)) only [↓reduceIte, ↓zlet_eq, ↓bdR_sI, ↓bdR_sJ, ↓bdR_aI, zc2_some, Option.bind_some, ↓si_m1, ↓si_m2, ↓si_m3, iI_lit, iI_add, iI_sub, iI_mul, leT, leF, ltT, ltF, eqT, eqF, zinT, clI, Int.toNat_natCast, Int.reduceToNat, tN1, tNa, tN0, tNm, if_pos, if_neg, zI_sI, zI_sJ, zI_sR, zJ_sI, zJ_sJ, zJ_sR, zR_sI, zR_sJ, zR_sR, zK_sI, zK_sJ, zK_sR, zL_sI, zL_sJ, zL_sR, zI_aI, zJ_aI, zR_aI, zK_aI, zL_aI, z2_at, z2_a, z2_k, z1_self, z1_ne, true_and, and_true, bIt, bIf, Bool.false_eq_true, Bool.true_eq_false, eq_self, not_true_eq_false, not_false_eq_true]
  · simp (maxSteps := 1000000) (disch := (first | assumption | exact ne_b rfl | omega)) only [↓reduceIte, ↓zlet_eq, ↓bdR_sI, ↓bdR_sJ, ↓bdR_aI, zc2_some, Option.bind_some, ↓si_m1, ↓si_m2, ↓si_m3, iI_lit, iI_add, iI_sub, iI_mul, leT, leF, ltT, ltF, eqT, eqF, zinT, clI, Int.toNat_natCast, Int.reduceToNat, tN1, tNa, tN0, tNm, if_pos, if_neg, zI_sI, zI_sJ, zI_sR, zJ_sI, zJ_sJ, zJ_sR, zR_sI, zR_sJ, zR_sR, zK_sI, zK_sJ, zK_sR, zL_sI, zL_sJ, zL_sR, zI_aI, zJ_aI, zR_aI, zK_aI, zL_aI, z2_at, z2_a, z2_k, z1_self, z1_ne, true_and, and_true, bIt, bIf, Bool.false_eq_true, Bool.true_eq_false, eq_self, not_true_eq_false, not_false_eq_true]
/-- a rule's rows, not laid yet -/
def L0 (h : Zh) (i : Nat) : Prop := zI h (54 + 2 * i) 0 = iI i ∧ zI h (54 + 2 * i) 2 = iI 0 ∧ zI h (54 + 2 * i) 3 = iI 0 ∧ zI h (54 + 2 * i) 4 = iI 0 ∧ zI h (54 + 2 * i) 5 = iI (-2) ∧ zI h (54 + 2 * i) 6 = iI (-2) ∧ zI h (54 + 2 * i) 7 = iI 0
theorem L0.ld {h : Zh} {i : Nat} (q : L0 h i) (t : Tk) (k : Nat) : LD h t k i := ⟨q.1, Or.inl ⟨q.2.1, ⟨fun y hy => by omega, q.2.2.1, q.2.2.2.1, q.2.2.2.2.1, q.2.2.2.2.2.1⟩, q.2.2.2.2.2.2⟩⟩
theorem begin_64 {g h0 : Zh} (sg : St g) (s0 : St h0) (hn : ∀ i, i < 4 → zI h0 (54 + 2 * i) 0 = iI i) : ∃ h', lp (fun q : Int32 × Zh => bX4_begin_64 g 25 q.1 q.2) zB (iI 0, h0) = some (1, (iI 4, h')) ∧ Fm [54, 56, 58, 60] h0 h' ∧ ∀ i, i < 4 → L0 h' i := by
  have := lp_cnt (body := fun q : Int32 × Zh => bX4_begin_64 g 25 q.1 q.2) 4 (fun i z => ∃ h, z = ((iI (i : Int), h) : Int32 × Zh) ∧ Fm [54, 56, 58, 60] h0 h ∧ (∀ j, j < i → L0 h j) ∧ ∀ j, j < 4 → zI h (54 + 2 * j) 0 = iI j) (fun e z => e = 1 ∧ z.1 = iI 4 ∧ Fm [54, 56, 58, 60] h0 z.2 ∧ ∀ i, i < 4 → L0 z.2 i) ?_ ?_ (by omega) (s := (iI 0, h0)) ⟨h0, rfl, Fm.rf, fun j hj => by omega, hn⟩
  · obtain ⟨e, z, l1, l2, l3, l4, l5⟩ := this
    obtain ⟨z1, z2⟩ := z
    have e0 : e = 0 := by omega
    subst e0
    have l3' : z1 = iI 4 := l3
    rw [l3'] at l1
    exact ⟨z2, l1, l4, l5⟩
  · intro i z hi ⟨h, ez, fm, k1, k2⟩
    subst ez
    have s1 := s0.fm fm
    obtain ⟨h2, q1, q2, q3, q4, q5, q6, q7, q8, q9⟩ := clear2_eq s1 hi
    obtain ⟨gd1, gd2, -⟩ := ldS sg hi
    obtain ⟨d1, d2, -⟩ := ldS s1 hi
    have hm : ∀ x, x ∈ [54 + 2 * i] → x ∈ [54, 56, 58, 60] := by
      intro x hx
      have : i = 0 ∨ i = 1 ∨ i = 2 ∨ i = 3 := by omega
      simp at hx ⊢
      omega
    have oth : ∀ j, j ≠ i → zI h2 (54 + 2 * j) = zI h (54 + 2 * j) := fun j hj => q2.I (by simp; omega)
    refine Or.inl ⟨(iI ((i + 1 : Nat) : Int), h2), ?_, h2, rfl, fm.tr (q2.mono hm), fun j hj => ?_, fun j hj => ?_⟩
    · show bX4_begin_64 g 25 (iI i) h = _
      unfold bX4_begin_64
      simp (maxSteps := 1000000) (disch := (first | assumption | exact ne_b rfl | omega)) only [↓reduceIte, ↓zlet_eq, ↓bdR_sI, ↓bdR_sJ, ↓bdR_aI, zc2_some, Option.bind_some, ↓si_m1, ↓si_m2, ↓si_m3, iI_lit, iI_add, iI_sub, iI_mul, leT, leF, ltT, ltF, eqT, eqF, zinT, clI, Int.toNat_natCast, Int.reduceToNat, tN1, tNa, tN0, tNm, if_pos, if_neg, zI_sI, zI_sJ, zI_sR, zJ_sI, zJ_sJ, zJ_sR, zR_sI, zR_sJ, zR_sR, zK_sI, zK_sJ, zK_sR, zL_sI, zL_sJ, zL_sR, zI_aI, zJ_aI, zR_aI, zK_aI, zL_aI, z2_at, z2_a, z2_k, z1_self, z1_ne, true_and, and_true, bIt, bIf, Bool.false_eq_true, Bool.true_eq_false, eq_self, not_true_eq_false, not_false_eq_true, sK0, sK1, sK2, sK3, sK4, sK5, sK6, sK7, sK8, sK9, sK10, sK11, sK12, sK13, sK14, sK15, sK16, sK17, sK18, sK19, sK20, sK21, sK22, sK23, sK24, sK25, sK26, sK27, sK28, sK29, sK30, sK31, sK32, sK33, sK34, sK35, sK36, sK37, sK38, sK39, sK40, sK41, sK42, sK43, sK44, sK45, sK46, sK47, sK48, sK49, sK50, sK51, sK52, sK53, sK54, sK55, sK56, sK57, sK58, sK59, sK60, sK61, sK62, sK63, sK64, sK65, sK66, sK67, sK68, sK69, sK70, sK71, sK72, sK73, sK74, sK75, sL1, sL3, sL6, sL8, sL9, sL10, sL11, sL12, sL15, sL17, sL18, sL21, sL23, sL24, sL26, sL29, sL31, sL32, sL34, sL36, sL37, sL39, sL40, sL41, sL43, sL45, sL46, sL47, sL48, sL49, sL50, sL51, sL52, sL53, sL55, sL57, sL59, sL61, sL62, sL63, sL64, sL65, sL67, sL68, sL70, sL71, sL73, sL74, sL75, sR0_0, sR0_2, sR0_5, sR0_6, sR0_11, sR2_5, sR2_6, sR2_7, sR4_1, sR4_2, sR4_4, sR7_0, sR7_1, sR13_1, sR13_2, sR13_4, sR16_0, sR16_1, sR19_1, sR19_2, sR19_4, sR22_0, sR22_1, sR25_0, sR25_2, sR25_3, sR25_4, sR25_5, sR25_6, sR25_7, sR25_8, sR25_10, sR27_1, sR27_2, sR27_4, sR30_0, sR30_1, sR33_0, sR35_0, sR35_1, sR38_0, sR38_1, sR38_2, sR42_0, sR42_5, sR42_7, sR42_11, sR42_12, sR42_13, sR53_0, sR53_1, sR53_2, sR53_3, sR54_1, sR56_1, sR58_1, sR60_1, sR65_0, sR65_1, sR65_2, sR66_0, sR66_1, sR69_0, sR69_1, sR72_0, sR72_1, ↓sB0_0, ↓sB0_2, ↓sB0_5, ↓sB0_6, ↓sB0_11, ↓sB2_5, ↓sB2_6, ↓sB2_7, ↓sB4_1, ↓sB4_2, ↓sB4_4, ↓sB7_0, ↓sB7_1, ↓sB13_1, ↓sB13_2, ↓sB13_4, ↓sB16_0, ↓sB16_1, ↓sB19_1, ↓sB19_2, ↓sB19_4, ↓sB22_0, ↓sB22_1, ↓sB25_0, ↓sB25_2, ↓sB25_3, ↓sB25_4, ↓sB25_5, ↓sB25_6, ↓sB25_7, ↓sB25_8, ↓sB25_10, ↓sB27_1, ↓sB27_2, ↓sB27_4, ↓sB30_0, ↓sB30_1, ↓sB33_0, ↓sB35_0, ↓sB35_1, ↓sB38_0, ↓sB38_1, ↓sB38_2, ↓sB42_0, ↓sB42_5, ↓sB42_7, ↓sB42_11, ↓sB42_12, ↓sB42_13, ↓sB53_0, ↓sB53_1, ↓sB53_2, ↓sB53_3, ↓sB54_1, ↓sB56_1, ↓sB58_1, ↓sB60_1, ↓sB65_0, ↓sB65_1, ↓sB65_2, ↓sB66_0, ↓sB66_1, ↓sB69_0, ↓sB69_1, ↓sB72_0, ↓sB72_1, ↓bd_of d1, gd2, ↓bd_of q1]
      all_goals rfl
    · by_cases c : j = i
      · subst c
        exact ⟨by rw [q3]; exact k2 j hi, q4, q5, q6, q7, q8, q9⟩
      · unfold L0
        rw [oth j c]
        exact k1 j (by omega)
    · by_cases c : j = i
      · subst c
        rw [q3]; exact k2 j hj
      · rw [oth j c]; exact k2 j hj
  · intro z ⟨h, ez, fm, k1, k2⟩
    subst ez
    refine ⟨0, (iI ((4 : Nat) : Int), h), ?_, rfl, rfl, fm, k1⟩
    show bX4_begin_64 g 25 (iI ((4 : Nat) : Int)) h = _
    unfold bX4_begin_64
    simp (maxSteps := 1000000) (disch := (first | assumption | exact ne_b rfl | omega)) only [↓reduceIte, ↓zlet_eq, ↓bdR_sI, ↓bdR_sJ, ↓bdR_aI, zc2_some, Option.bind_some, ↓si_m1, ↓si_m2, ↓si_m3, iI_lit, iI_add, iI_sub, iI_mul, leT, leF, ltT, ltF, eqT, eqF, zinT, clI, Int.toNat_natCast, Int.reduceToNat, tN1, tNa, tN0, tNm, if_pos, if_neg, zI_sI, zI_sJ, zI_sR, zJ_sI, zJ_sJ, zJ_sR, zR_sI, zR_sJ, zR_sR, zK_sI, zK_sJ, zK_sR, zL_sI, zL_sJ, zL_sR, zI_aI, zJ_aI, zR_aI, zK_aI, zL_aI, z2_at, z2_a, z2_k, z1_self, z1_ne, true_and, and_true, bIt, bIf, Bool.false_eq_true, Bool.true_eq_false, eq_self, not_true_eq_false, not_false_eq_true]
    all_goals rfl
def bgA (i : Nat) : Prop := i = 25 ∨ i = 26 ∨ i = 34 ∨ i = 42 ∨ i = 54 ∨ i = 56 ∨ i = 58 ∨ i = 60 ∨ i = 62 ∨ i = 63
theorem fX4_begin_eq {h : Zh} {td : Nat} {t : Tk} {rc : Nat} {ru : Nat → Nat} {CR OW se sp : Nat} (tok : Tok t) (s : St h) (tdh : TD h td t rc ru) (pi : PI h CR OW se) (rs : RS0 h sp) (hn : ∀ i, i < 4 → zI h (54 + 2 * i) 0 = iI i) : ∃ h', fX4_begin 25 td h = some h' ∧ LG h' td t rc ru CR OW se sp false ∧ Fc bgA h h' ∧ zN h' = zN h ∧ zS h' = zS h ∧ zL h' = zL h := by
  obtain ⟨bn4, bn12, bu1, bu4, bnu, bk2, bk5, bkn, bp1, bp2, bpk, bH, bsp, bs1, bs4, bT1, bT16, bR1, bR2, bH1, bff, bff1⟩ := tok.b
  have htd := tdh.1
  have hN := s.1
  obtain ⟨t1, t2, t3, t4, t5, -⟩ := tdS s htd
  have s2 : St (zsR h 25 1 (some td)) := s.sR _ (by decide)
  have dk := tdh.2.2.1
  obtain ⟨h3, q1, q2, q3⟩ := fX5_list_eq (r0 := 33) (rw := 34) (out := 26) (n := tn t) (k := tk t) (L := 2000) (rs := !tst t) (h := zsR h 25 1 (some td)) (sK33 s2) (sR33_0 s2) (sK34 s2) (sL34 s2) (sK26 s2) (sL26 s2) (by decide) (by decide) bn12 (by omega) bk5 bkn bH bH
  have s3 := s2.fm q2
  have f4 : Fm [42] h3 (zsI h3 42 1 (iI 0)) := Fm_sI _ _ _ (by simp)
  have s4 := s3.fm f4
  obtain ⟨h5, l1, l2, l3⟩ := begin_64 (g := h) s s4 (fun i hi => by
    rw [f4.I (by simp; omega), q2.I (by simp; omega)]
    exact hn i hi)
  have s5 := s4.fm l2
  have e62 := fJ7_fill_eq (r := 62) (v := -3) (h := h5) (sK62 s5) (by rw [sL62 s5]; decide)
  have f6 : Fm [62] h5 (zaI h5 62 (afill (zL h5 62) (fun _ => iI (-3)) (zI h5 62))) := Fm_aI _ _ (by simp)
  have v62 : ∀ j, j < 16 → zI (zaI h5 62 (afill (zL h5 62) (fun _ => iI (-3)) (zI h5 62))) 62 j = iI (-3) := fun j hj => by
    rw [zI_aI, z1_self, sL62 s5, afill_lt hj]
  generalize zaI h5 62 (afill (zL h5 62) (fun _ => iI (-3)) (zI h5 62)) = h6 at *
  have s6 := s5.fm f6
  have e63 := fJ7_fill_eq (r := 63) (v := -3) (h := h6) (sK63 s6) (by rw [sL63 s6]; decide)
  have f7 : Fm [63] h6 (zaI h6 63 (afill (zL h6 63) (fun _ => iI (-3)) (zI h6 63))) := Fm_aI _ _ (by simp)
  have v63 : ∀ j, j < 20 → zI (zaI h6 63 (afill (zL h6 63) (fun _ => iI (-3)) (zI h6 63))) 63 j = iI (-3) := fun j hj => by
    rw [zI_aI, z1_self, sL63 s6, afill_lt hj]
  generalize zaI h6 63 (afill (zL h6 63) (fun _ => iI (-3)) (zI h6 63)) = h7 at *
  have s7 := s6.fm f7
  have f8 : Fm [25] h7 (zsI h7 25 9 (iI (-3))) := Fm_sI _ _ _ (by simp)
  have s8 := s7.fm f8
  have fA : Fm [25, 26, 34, 42, 54, 56, 58, 60, 62, 63] (zsR h 25 1 (some td)) (zsI h7 25 9 (iI (-3))) := (((((q2.mono (by simp)).tr (f4.mono (by simp))).tr (l2.mono (by simp))).tr (f6.mono (by simp))).tr (f7.mono (by simp))).tr (f8.mono (by simp))
  have mA : ∀ i, i ∈ [25, 26, 34, 42, 54, 56, 58, 60, 62, 63] → bgA i := by
    intro i hi
    simp only [List.mem_cons, List.not_mem_nil, or_false] at hi
    exact hi
  have f0 : Fc bgA h (zsR h 25 1 (some td)) := ⟨Nat.le_refl _, fun _ _ => ⟨rfl, rfl⟩, fun i _ ha => ⟨rfl, rfl, by
    rw [zR_sR]
    exact z2_row _ _ _ (fun e => ha (Or.inl e))⟩⟩
  have fT : Fc bgA h (zsI h7 25 9 (iI (-3))) := f0.tr fA.c (fun i _ hi => mA i hi)
  have nA : ∀ i, ¬ bgA i → zI (zsI h7 25 9 (iI (-3))) i = zI (zsR h 25 1 (some td)) i := fun i hi => fA.I (fun m => hi (mA i m))
  refine ⟨zsI h7 25 9 (iI (-3)), ?_, ?_, fT, fA.N, fA.S, fA.L⟩
  · have r25 : zR (zsR h 25 1 (some td)) 25 1 = some td := by rw [zR_sR, z2_at]
    obtain ⟨u1, u2, -⟩ := tdS s2 htd
    have d0 := dk.f0
    have d3 := dk.f3
    have d6 := dk.f6
    have hk : kX4_begin_64 h 25 1 (iI 4) h5 = some (zsI h7 25 9 (iI (-3))) := by
      unfold kX4_begin_64
      simp (maxSteps := 1000000) (disch := (first | assumption | exact ne_b rfl | omega)) only [↓reduceIte, ↓zlet_eq, ↓bdR_sI, ↓bdR_sJ, ↓bdR_aI, zc2_some, Option.bind_some, ↓si_m1, ↓si_m2, ↓si_m3, iI_lit, iI_add, iI_sub, iI_mul, leT, leF, ltT, ltF, eqT, eqF, zinT, clI, Int.toNat_natCast, Int.reduceToNat, tN1, tNa, tN0, tNm, if_pos, if_neg, zI_sI, zI_sJ, zI_sR, zJ_sI, zJ_sJ, zJ_sR, zR_sI, zR_sJ, zR_sR, zK_sI, zK_sJ, zK_sR, zL_sI, zL_sJ, zL_sR, zI_aI, zJ_aI, zR_aI, zK_aI, zL_aI, z2_at, z2_a, z2_k, z1_self, z1_ne, true_and, and_true, bIt, bIf, Bool.false_eq_true, Bool.true_eq_false, eq_self, not_true_eq_false, not_false_eq_true, sK0, sK1, sK2, sK3, sK4, sK5, sK6, sK7, sK8, sK9, sK10, sK11, sK12, sK13, sK14, sK15, sK16, sK17, sK18, sK19, sK20, sK21, sK22, sK23, sK24, sK25, sK26, sK27, sK28, sK29, sK30, sK31, sK32, sK33, sK34, sK35, sK36, sK37, sK38, sK39, sK40, sK41, sK42, sK43, sK44, sK45, sK46, sK47, sK48, sK49, sK50, sK51, sK52, sK53, sK54, sK55, sK56, sK57, sK58, sK59, sK60, sK61, sK62, sK63, sK64, sK65, sK66, sK67, sK68, sK69, sK70, sK71, sK72, sK73, sK74, sK75, sL1, sL3, sL6, sL8, sL9, sL10, sL11, sL12, sL15, sL17, sL18, sL21, sL23, sL24, sL26, sL29, sL31, sL32, sL34, sL36, sL37, sL39, sL40, sL41, sL43, sL45, sL46, sL47, sL48, sL49, sL50, sL51, sL52, sL53, sL55, sL57, sL59, sL61, sL62, sL63, sL64, sL65, sL67, sL68, sL70, sL71, sL73, sL74, sL75, sR0_0, sR0_2, sR0_5, sR0_6, sR0_11, sR2_5, sR2_6, sR2_7, sR4_1, sR4_2, sR4_4, sR7_0, sR7_1, sR13_1, sR13_2, sR13_4, sR16_0, sR16_1, sR19_1, sR19_2, sR19_4, sR22_0, sR22_1, sR25_0, sR25_2, sR25_3, sR25_4, sR25_5, sR25_6, sR25_7, sR25_8, sR25_10, sR27_1, sR27_2, sR27_4, sR30_0, sR30_1, sR33_0, sR35_0, sR35_1, sR38_0, sR38_1, sR38_2, sR42_0, sR42_5, sR42_7, sR42_11, sR42_12, sR42_13, sR53_0, sR53_1, sR53_2, sR53_3, sR54_1, sR56_1, sR58_1, sR60_1, sR65_0, sR65_1, sR65_2, sR66_0, sR66_1, sR69_0, sR69_1, sR72_0, sR72_1, ↓sB0_0, ↓sB0_2, ↓sB0_5, ↓sB0_6, ↓sB0_11, ↓sB2_5, ↓sB2_6, ↓sB2_7, ↓sB4_1, ↓sB4_2, ↓sB4_4, ↓sB7_0, ↓sB7_1, ↓sB13_1, ↓sB13_2, ↓sB13_4, ↓sB16_0, ↓sB16_1, ↓sB19_1, ↓sB19_2, ↓sB19_4, ↓sB22_0, ↓sB22_1, ↓sB25_0, ↓sB25_2, ↓sB25_3, ↓sB25_4, ↓sB25_5, ↓sB25_6, ↓sB25_7, ↓sB25_8, ↓sB25_10, ↓sB27_1, ↓sB27_2, ↓sB27_4, ↓sB30_0, ↓sB30_1, ↓sB33_0, ↓sB35_0, ↓sB35_1, ↓sB38_0, ↓sB38_1, ↓sB38_2, ↓sB42_0, ↓sB42_5, ↓sB42_7, ↓sB42_11, ↓sB42_12, ↓sB42_13, ↓sB53_0, ↓sB53_1, ↓sB53_2, ↓sB53_3, ↓sB54_1, ↓sB56_1, ↓sB58_1, ↓sB60_1, ↓sB65_0, ↓sB65_1, ↓sB65_2, ↓sB66_0, ↓sB66_1, ↓sB69_0, ↓sB69_1, ↓sB72_0, ↓sB72_1, ↓bd_of e62, ↓bd_of e63]
    have hj : jX4_begin_47 h 25 (iI (bI (!tst t))) (iI (tk t)) (iI (tn t)) 33 (zsR h 25 1 (some td)) = some (zsI h7 25 9 (iI (-3))) := by
      unfold jX4_begin_47
      simp (maxSteps := 1000000) (disch := (first | assumption | exact ne_b rfl | omega)) only [↓reduceIte, ↓zlet_eq, ↓bdR_sI, ↓bdR_sJ, ↓bdR_aI, zc2_some, Option.bind_some, ↓si_m1, ↓si_m2, ↓si_m3, iI_lit, iI_add, iI_sub, iI_mul, leT, leF, ltT, ltF, eqT, eqF, zinT, clI, Int.toNat_natCast, Int.reduceToNat, tN1, tNa, tN0, tNm, if_pos, if_neg, zI_sI, zI_sJ, zI_sR, zJ_sI, zJ_sJ, zJ_sR, zR_sI, zR_sJ, zR_sR, zK_sI, zK_sJ, zK_sR, zL_sI, zL_sJ, zL_sR, zI_aI, zJ_aI, zR_aI, zK_aI, zL_aI, z2_at, z2_a, z2_k, z1_self, z1_ne, true_and, and_true, bIt, bIf, Bool.false_eq_true, Bool.true_eq_false, eq_self, not_true_eq_false, not_false_eq_true, sK0, sK1, sK2, sK3, sK4, sK5, sK6, sK7, sK8, sK9, sK10, sK11, sK12, sK13, sK14, sK15, sK16, sK17, sK18, sK19, sK20, sK21, sK22, sK23, sK24, sK25, sK26, sK27, sK28, sK29, sK30, sK31, sK32, sK33, sK34, sK35, sK36, sK37, sK38, sK39, sK40, sK41, sK42, sK43, sK44, sK45, sK46, sK47, sK48, sK49, sK50, sK51, sK52, sK53, sK54, sK55, sK56, sK57, sK58, sK59, sK60, sK61, sK62, sK63, sK64, sK65, sK66, sK67, sK68, sK69, sK70, sK71, sK72, sK73, sK74, sK75, sL1, sL3, sL6, sL8, sL9, sL10, sL11, sL12, sL15, sL17, sL18, sL21, sL23, sL24, sL26, sL29, sL31, sL32, sL34, sL36, sL37, sL39, sL40, sL41, sL43, sL45, sL46, sL47, sL48, sL49, sL50, sL51, sL52, sL53, sL55, sL57, sL59, sL61, sL62, sL63, sL64, sL65, sL67, sL68, sL70, sL71, sL73, sL74, sL75, sR0_0, sR0_2, sR0_5, sR0_6, sR0_11, sR2_5, sR2_6, sR2_7, sR4_1, sR4_2, sR4_4, sR7_0, sR7_1, sR13_1, sR13_2, sR13_4, sR16_0, sR16_1, sR19_1, sR19_2, sR19_4, sR22_0, sR22_1, sR25_0, sR25_2, sR25_3, sR25_4, sR25_5, sR25_6, sR25_7, sR25_8, sR25_10, sR27_1, sR27_2, sR27_4, sR30_0, sR30_1, sR33_0, sR35_0, sR35_1, sR38_0, sR38_1, sR38_2, sR42_0, sR42_5, sR42_7, sR42_11, sR42_12, sR42_13, sR53_0, sR53_1, sR53_2, sR53_3, sR54_1, sR56_1, sR58_1, sR60_1, sR65_0, sR65_1, sR65_2, sR66_0, sR66_1, sR69_0, sR69_1, sR72_0, sR72_1, ↓sB0_0, ↓sB0_2, ↓sB0_5, ↓sB0_6, ↓sB0_11, ↓sB2_5, ↓sB2_6, ↓sB2_7, ↓sB4_1, ↓sB4_2, ↓sB4_4, ↓sB7_0, ↓sB7_1, ↓sB13_1, ↓sB13_2, ↓sB13_4, ↓sB16_0, ↓sB16_1, ↓sB19_1, ↓sB19_2, ↓sB19_4, ↓sB22_0, ↓sB22_1, ↓sB25_0, ↓sB25_2, ↓sB25_3, ↓sB25_4, ↓sB25_5, ↓sB25_6, ↓sB25_7, ↓sB25_8, ↓sB25_10, ↓sB27_1, ↓sB27_2, ↓sB27_4, ↓sB30_0, ↓sB30_1, ↓sB33_0, ↓sB35_0, ↓sB35_1, ↓sB38_0, ↓sB38_1, ↓sB38_2, ↓sB42_0, ↓sB42_5, ↓sB42_7, ↓sB42_11, ↓sB42_12, ↓sB42_13, ↓sB53_0, ↓sB53_1, ↓sB53_2, ↓sB53_3, ↓sB54_1, ↓sB56_1, ↓sB58_1, ↓sB60_1, ↓sB65_0, ↓sB65_1, ↓sB65_2, ↓sB66_0, ↓sB66_1, ↓sB69_0, ↓sB69_1, ↓sB72_0, ↓sB72_1, ↓bd_of q1, ↓bd_of l1, hk]
    unfold fX4_begin
    cases e : tst t
    · rw [e] at d6 hj
      have hj' : jX4_begin_47 h 25 (iI 1) (iI (tk t)) (iI (tn t)) 33 (zsR h 25 1 (some td)) = _ := hj
      simp (maxSteps := 1000000) (disch := (first | assumption | exact ne_b rfl | omega)) only [↓reduceIte, ↓zlet_eq, ↓bdR_sI, ↓bdR_sJ, ↓bdR_aI, zc2_some, Option.bind_some, ↓si_m1, ↓si_m2, ↓si_m3, iI_lit, iI_add, iI_sub, iI_mul, leT, leF, ltT, ltF, eqT, eqF, zinT, clI, Int.toNat_natCast, Int.reduceToNat, tN1, tNa, tN0, tNm, if_pos, if_neg, zI_sI, zI_sJ, zI_sR, zJ_sI, zJ_sJ, zJ_sR, zR_sI, zR_sJ, zR_sR, zK_sI, zK_sJ, zK_sR, zL_sI, zL_sJ, zL_sR, zI_aI, zJ_aI, zR_aI, zK_aI, zL_aI, z2_at, z2_a, z2_k, z1_self, z1_ne, true_and, and_true, bIt, bIf, Bool.false_eq_true, Bool.true_eq_false, eq_self, not_true_eq_false, not_false_eq_true, sK0, sK1, sK2, sK3, sK4, sK5, sK6, sK7, sK8, sK9, sK10, sK11, sK12, sK13, sK14, sK15, sK16, sK17, sK18, sK19, sK20, sK21, sK22, sK23, sK24, sK25, sK26, sK27, sK28, sK29, sK30, sK31, sK32, sK33, sK34, sK35, sK36, sK37, sK38, sK39, sK40, sK41, sK42, sK43, sK44, sK45, sK46, sK47, sK48, sK49, sK50, sK51, sK52, sK53, sK54, sK55, sK56, sK57, sK58, sK59, sK60, sK61, sK62, sK63, sK64, sK65, sK66, sK67, sK68, sK69, sK70, sK71, sK72, sK73, sK74, sK75, sL1, sL3, sL6, sL8, sL9, sL10, sL11, sL12, sL15, sL17, sL18, sL21, sL23, sL24, sL26, sL29, sL31, sL32, sL34, sL36, sL37, sL39, sL40, sL41, sL43, sL45, sL46, sL47, sL48, sL49, sL50, sL51, sL52, sL53, sL55, sL57, sL59, sL61, sL62, sL63, sL64, sL65, sL67, sL68, sL70, sL71, sL73, sL74, sL75, sR0_0, sR0_2, sR0_5, sR0_6, sR0_11, sR2_5, sR2_6, sR2_7, sR4_1, sR4_2, sR4_4, sR7_0, sR7_1, sR13_1, sR13_2, sR13_4, sR16_0, sR16_1, sR19_1, sR19_2, sR19_4, sR22_0, sR22_1, sR25_0, sR25_2, sR25_3, sR25_4, sR25_5, sR25_6, sR25_7, sR25_8, sR25_10, sR27_1, sR27_2, sR27_4, sR30_0, sR30_1, sR33_0, sR35_0, sR35_1, sR38_0, sR38_1, sR38_2, sR42_0, sR42_5, sR42_7, sR42_11, sR42_12, sR42_13, sR53_0, sR53_1, sR53_2, sR53_3, sR54_1, sR56_1, sR58_1, sR60_1, sR65_0, sR65_1, sR65_2, sR66_0, sR66_1, sR69_0, sR69_1, sR72_0, sR72_1, ↓sB0_0, ↓sB0_2, ↓sB0_5, ↓sB0_6, ↓sB0_11, ↓sB2_5, ↓sB2_6, ↓sB2_7, ↓sB4_1, ↓sB4_2, ↓sB4_4, ↓sB7_0, ↓sB7_1, ↓sB13_1, ↓sB13_2, ↓sB13_4, ↓sB16_0, ↓sB16_1, ↓sB19_1, ↓sB19_2, ↓sB19_4, ↓sB22_0, ↓sB22_1, ↓sB25_0, ↓sB25_2, ↓sB25_3, ↓sB25_4, ↓sB25_5, ↓sB25_6, ↓sB25_7, ↓sB25_8, ↓sB25_10, ↓sB27_1, ↓sB27_2, ↓sB27_4, ↓sB30_0, ↓sB30_1, ↓sB33_0, ↓sB35_0, ↓sB35_1, ↓sB38_0, ↓sB38_1, ↓sB38_2, ↓sB42_0, ↓sB42_5, ↓sB42_7, ↓sB42_11, ↓sB42_12, ↓sB42_13, ↓sB53_0, ↓sB53_1, ↓sB53_2, ↓sB53_3, ↓sB54_1, ↓sB56_1, ↓sB58_1, ↓sB60_1, ↓sB65_0, ↓sB65_1, ↓sB65_2, ↓sB66_0, ↓sB66_1, ↓sB69_0, ↓sB69_1, ↓sB72_0, ↓sB72_1, ↓bd_of r25, ↓bd_of u2, t1, t5, d0, d3, d6, hj']
    · rw [e] at d6 hj
      have hj' : jX4_begin_47 h 25 (iI 0) (iI (tk t)) (iI (tn t)) 33 (zsR h 25 1 (some td)) = _ := hj
      simp (maxSteps := 1000000) (disch := (first | assumption | exact ne_b rfl | omega)) only [↓reduceIte, ↓zlet_eq, ↓bdR_sI, ↓bdR_sJ, ↓bdR_aI, zc2_some, Option.bind_some, ↓si_m1, ↓si_m2, ↓si_m3, iI_lit, iI_add, iI_sub, iI_mul, leT, leF, ltT, ltF, eqT, eqF, zinT, clI, Int.toNat_natCast, Int.reduceToNat, tN1, tNa, tN0, tNm, if_pos, if_neg, zI_sI, zI_sJ, zI_sR, zJ_sI, zJ_sJ, zJ_sR, zR_sI, zR_sJ, zR_sR, zK_sI, zK_sJ, zK_sR, zL_sI, zL_sJ, zL_sR, zI_aI, zJ_aI, zR_aI, zK_aI, zL_aI, z2_at, z2_a, z2_k, z1_self, z1_ne, true_and, and_true, bIt, bIf, Bool.false_eq_true, Bool.true_eq_false, eq_self, not_true_eq_false, not_false_eq_true, sK0, sK1, sK2, sK3, sK4, sK5, sK6, sK7, sK8, sK9, sK10, sK11, sK12, sK13, sK14, sK15, sK16, sK17, sK18, sK19, sK20, sK21, sK22, sK23, sK24, sK25, sK26, sK27, sK28, sK29, sK30, sK31, sK32, sK33, sK34, sK35, sK36, sK37, sK38, sK39, sK40, sK41, sK42, sK43, sK44, sK45, sK46, sK47, sK48, sK49, sK50, sK51, sK52, sK53, sK54, sK55, sK56, sK57, sK58, sK59, sK60, sK61, sK62, sK63, sK64, sK65, sK66, sK67, sK68, sK69, sK70, sK71, sK72, sK73, sK74, sK75, sL1, sL3, sL6, sL8, sL9, sL10, sL11, sL12, sL15, sL17, sL18, sL21, sL23, sL24, sL26, sL29, sL31, sL32, sL34, sL36, sL37, sL39, sL40, sL41, sL43, sL45, sL46, sL47, sL48, sL49, sL50, sL51, sL52, sL53, sL55, sL57, sL59, sL61, sL62, sL63, sL64, sL65, sL67, sL68, sL70, sL71, sL73, sL74, sL75, sR0_0, sR0_2, sR0_5, sR0_6, sR0_11, sR2_5, sR2_6, sR2_7, sR4_1, sR4_2, sR4_4, sR7_0, sR7_1, sR13_1, sR13_2, sR13_4, sR16_0, sR16_1, sR19_1, sR19_2, sR19_4, sR22_0, sR22_1, sR25_0, sR25_2, sR25_3, sR25_4, sR25_5, sR25_6, sR25_7, sR25_8, sR25_10, sR27_1, sR27_2, sR27_4, sR30_0, sR30_1, sR33_0, sR35_0, sR35_1, sR38_0, sR38_1, sR38_2, sR42_0, sR42_5, sR42_7, sR42_11, sR42_12, sR42_13, sR53_0, sR53_1, sR53_2, sR53_3, sR54_1, sR56_1, sR58_1, sR60_1, sR65_0, sR65_1, sR65_2, sR66_0, sR66_1, sR69_0, sR69_1, sR72_0, sR72_1, ↓sB0_0, ↓sB0_2, ↓sB0_5, ↓sB0_6, ↓sB0_11, ↓sB2_5, ↓sB2_6, ↓sB2_7, ↓sB4_1, ↓sB4_2, ↓sB4_4, ↓sB7_0, ↓sB7_1, ↓sB13_1, ↓sB13_2, ↓sB13_4, ↓sB16_0, ↓sB16_1, ↓sB19_1, ↓sB19_2, ↓sB19_4, ↓sB22_0, ↓sB22_1, ↓sB25_0, ↓sB25_2, ↓sB25_3, ↓sB25_4, ↓sB25_5, ↓sB25_6, ↓sB25_7, ↓sB25_8, ↓sB25_10, ↓sB27_1, ↓sB27_2, ↓sB27_4, ↓sB30_0, ↓sB30_1, ↓sB33_0, ↓sB35_0, ↓sB35_1, ↓sB38_0, ↓sB38_1, ↓sB38_2, ↓sB42_0, ↓sB42_5, ↓sB42_7, ↓sB42_11, ↓sB42_12, ↓sB42_13, ↓sB53_0, ↓sB53_1, ↓sB53_2, ↓sB53_3, ↓sB54_1, ↓sB56_1, ↓sB58_1, ↓sB60_1, ↓sB65_0, ↓sB65_1, ↓sB65_2, ↓sB66_0, ↓sB66_1, ↓sB69_0, ↓sB69_1, ↓sB72_0, ↓sB72_1, ↓bd_of r25, ↓bd_of u2, t1, t5, d0, d3, d6, hj']
  · have e42 : ∀ j, j ≠ 1 → zI (zsI h7 25 9 (iI (-3))) 42 j = zI h 42 j := fun j hj => by
      rw [f8.I (by simp), f7.I (by simp), f6.I (by simp), l2.I (by simp), zI_sI, z2_k _ _ _ hj, q2.I (by simp)]
      rfl
    have e421 : zI (zsI h7 25 9 (iI (-3))) 42 1 = iI 0 := by
      rw [f8.I (by simp), f7.I (by simp), f6.I (by simp), l2.I (by simp), zI_sI, z2_at]
    have hrc := tdh.2.2.2.2.1
    obtain ⟨p1, p2, p3, p4, p5, p6, p7, p8, p9, p10, p11, p12, p13⟩ := pi
    have hNN : zN (zsI h7 25 9 (iI (-3))) = zN h := fA.N
    have eL : ∀ i, i < 4 → L0 (zsI h7 25 9 (iI (-3))) i := fun i hi => by
      unfold L0
      rw [f8.I (by simp; omega), f7.I (by simp; omega), f6.I (by simp; omega)]
      exact l3 i hi
    refine ⟨s8, by rw [fA.R, zR_sR, z2_at], tdh.fc fT hN (fun i h1 h2 m => by unfold bgA at m; omega), fun x hx => ?_, ⟨?_, ?_, by rw [fA.K]; exact p3, by rw [fA.K]; exact p4, by rw [fA.L]; exact p5, by rw [fA.L]; exact p6, p7, p8, p9, by rw [hNN]; exact p10, by rw [hNN]; exact p11, by rw [e42 14 (by decide)]; exact p12, ?_⟩, ⟨e421, fun q => by cases q⟩, rs.fc fT hN (fun m => by unfold bgA at m; omega) (fun m => by unfold bgA at m; omega), fun i hi => (eL i hi).ld t (ru i), fun i j hi hj => Or.inl ?_, fun w hw => Or.inl ?_, Or.inl (by rw [zI_sI, z2_at])⟩
    · rw [f8.I (by simp), f7.I (by simp), f6.I (by simp), l2.I (by simp), f4.I (by simp)]
      exact q3 x hx
    · rw [fA.R, zR_sR, z2_row _ _ _ (by decide)]; exact p1
    · rw [fA.R, zR_sR, z2_row _ _ _ (by decide)]; exact p2
    · unfold Mr0
      rw [nA 52 (fun m => by unfold bgA at m; omega)]
      exact p13
    · rw [f8.I (by simp), f7.I (by simp)]
      exact v62 _ (by omega)
    · rw [f8.I (by simp)]
      exact v63 w hw
