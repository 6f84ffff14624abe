/-! the model's guards; what the ledger gives -/
theorem KM.tr3 {h : Zh} {v : Vw} {tr ra : Nat} (m : KM h v tr ra) : zR h 76 3 = if v.on then some tr else none := by
  obtain ⟨a1, a2, a3, a4, a5, a6⟩ := m
  cases e : v.on
  · exact a5 e
  · exact (a6 e).1.1.2.2.1
theorem isHand_1 {h : Zh} {v : Vw} {tr ra : Nat} {x : Int} (ok : VOK v) (m : KM h v tr ra) (hx : 0 ≤ x ∧ x < HNv v) : fX12_isHand 76 (iI x) h = some (iI 1, h) := by
  have hb := ok.b.1
  have on : v.on = true := by
    cases e : v.on
    · unfold HNv at hx; rw [e] at hx; simp at hx; omega
    · rfl
  have s := m.1
  have h17 := (m.2.2.2.2.2 on).1.1.2.2.2.2.1.1
  have r3 := m.tr3
  unfold HNv at hx hb
  rw [on] at hx r3 hb
  rw [if_pos rfl] at hx r3 hb
  have ris : (zR h 76 3).isSome = true := by rw [r3]; rfl
  unfold fX12_isHand
  simp (maxSteps := 1000000) (disch := (first | assumption | exact ne_b rfl | omega)) only [↓reduceIte, ↓zlet_eq, ↓bdR_sI, ↓bdR_sJ, ↓bdR_aI, zc2_some, Option.bind_some, ↓si_m1, ↓si_m2, ↓si_m3, iI_lit, iI_add, iI_sub, iI_mul, leT, leF, ltT, ltF, eqT, eqF, zinT, clI, Int.toNat_natCast, Int.reduceToNat, tN1, tNa, tN0, tNm, if_pos, if_neg, zI_sI, zI_sJ, zI_sR, zJ_sI, zJ_sJ, zJ_sR, zR_sI, zR_sJ, zR_sR, zK_sI, zK_sJ, zK_sR, zL_sI, zL_sJ, zL_sR, zI_aI, zJ_aI, zR_aI, zK_aI, zL_aI, z2_at, z2_a, z2_k, z1_self, z1_ne, true_and, and_true, bIt, bIf, Bool.false_eq_true, Bool.true_eq_false, eq_self, not_true_eq_false, not_false_eq_true, sK76, sK77, sK78, sK79, sK80, sK81, sK82, sK83, sK84, sK85, sK86, sK87, sK88, sK89, sK90, sK91, sK92, sK93, sK94, sK95, sK96, sK97, sK98, sK99, sK100, sL77, sL78, sL79, sL80, sL81, sL82, sL83, sL84, sL85, sL86, sL87, sL88, sL89, sL90, sL91, sL92, sL93, sL94, sL95, sL96, sL97, sL98, sL99, sL100, sR76_5, sR76_16, sR76_18, sR76_19, sR76_20, sR76_21, sR76_23, sR76_25, sR76_26, sR76_27, sR76_28, sR76_29, sR76_30, sR76_31, sR76_32, sR76_33, sR76_34, sR76_37, sR76_38, sR76_39, sR76_40, sR76_41, sR76_42, ↓sB76_5, ↓sB76_16, ↓sB76_18, ↓sB76_19, ↓sB76_20, ↓sB76_21, ↓sB76_23, ↓sB76_25, ↓sB76_26, ↓sB76_27, ↓sB76_28, ↓sB76_29, ↓sB76_30, ↓sB76_31, ↓sB76_32, ↓sB76_33, ↓sB76_34, ↓sB76_37, ↓sB76_38, ↓sB76_39, ↓sB76_40, ↓sB76_41, ↓sB76_42, ris, h17]
theorem isHand_0 {h : Zh} {v : Vw} {tr ra : Nat} {x : Int} (ok : VOK v) (m : KM h v tr ra) (hr : iR x) (hx : ¬ (0 ≤ x ∧ x < HNv v)) : fX12_isHand 76 (iI x) h = some (iI 0, h) := by
  have hb := ok.b.1
  have s := m.1
  have r3 := m.tr3
  have hr1 := hr.1
  have hr2 := hr.2
  unfold fX12_isHand
  cases e : v.on
  · rw [e, if_neg (by decide)] at r3
    have ris : (zR h 76 3).isSome = false := by rw [r3]; rfl
    simp (maxSteps := 1000000) (disch := (first | assumption | exact ne_b rfl | omega)) only [↓reduceIte, ↓zlet_eq, ↓bdR_sI, ↓bdR_sJ, ↓bdR_aI, zc2_some, Option.bind_some, ↓si_m1, ↓si_m2, ↓si_m3, iI_lit, iI_add, iI_sub, iI_mul, leT, leF, ltT, ltF, eqT, eqF, zinT, clI, Int.toNat_natCast, Int.reduceToNat, tN1, tNa, tN0, tNm, if_pos, if_neg, zI_sI, zI_sJ, zI_sR, zJ_sI, zJ_sJ, zJ_sR, zR_sI, zR_sJ, zR_sR, zK_sI, zK_sJ, zK_sR, zL_sI, zL_sJ, zL_sR, zI_aI, zJ_aI, zR_aI, zK_aI, zL_aI, z2_at, z2_a, z2_k, z1_self, z1_ne, true_and, and_true, bIt, bIf, Bool.false_eq_true, Bool.true_eq_false, eq_self, not_true_eq_false, not_false_eq_true, sK76, sK77, sK78, sK79, sK80, sK81, sK82, sK83, sK84, sK85, sK86, sK87, sK88, sK89, sK90, sK91, sK92, sK93, sK94, sK95, sK96, sK97, sK98, sK99, sK100, sL77, sL78, sL79, sL80, sL81, sL82, sL83, sL84, sL85, sL86, sL87, sL88, sL89, sL90, sL91, sL92, sL93, sL94, sL95, sL96, sL97, sL98, sL99, sL100, sR76_5, sR76_16, sR76_18, sR76_19, sR76_20, sR76_21, sR76_23, sR76_25, sR76_26, sR76_27, sR76_28, sR76_29, sR76_30, sR76_31, sR76_32, sR76_33, sR76_34, sR76_37, sR76_38, sR76_39, sR76_40, sR76_41, sR76_42, ↓sB76_5, ↓sB76_16, ↓sB76_18, ↓sB76_19, ↓sB76_20, ↓sB76_21, ↓sB76_23, ↓sB76_25, ↓sB76_26, ↓sB76_27, ↓sB76_28, ↓sB76_29, ↓sB76_30, ↓sB76_31, ↓sB76_32, ↓sB76_33, ↓sB76_34, ↓sB76_37, ↓sB76_38, ↓sB76_39, ↓sB76_40, ↓sB76_41, ↓sB76_42, ris]
  · have h17 := (m.2.2.2.2.2 e).1.1.2.2.2.2.1.1
    unfold HNv at hx hb
    rw [e, if_pos rfl] at hx r3 hb
    have ris : (zR h 76 3).isSome = true := by rw [r3]; rfl
    by_cases c0 : x < 0
    · simp (maxSteps := 1000000) (disch := (first | assumption | exact ne_b rfl | omega)) only [↓reduceIte, ↓zlet_eq, ↓bdR_sI, ↓bdR_sJ, ↓bdR_aI, zc2_some, Option.bind_some, ↓si_m1, ↓si_m2, ↓si_m3, iI_lit, iI_add, iI_sub, iI_mul, leT, leF, ltT, ltF, eqT, eqF, zinT, clI, Int.toNat_natCast, Int.reduceToNat, tN1, tNa, tN0, tNm, if_pos, if_neg, zI_sI, zI_sJ, zI_sR, zJ_sI, zJ_sJ, zJ_sR, zR_sI, zR_sJ, zR_sR, zK_sI, zK_sJ, zK_sR, zL_sI, zL_sJ, zL_sR, zI_aI, zJ_aI, zR_aI, zK_aI, zL_aI, z2_at, z2_a, z2_k, z1_self, z1_ne, true_and, and_true, bIt, bIf, Bool.false_eq_true, Bool.true_eq_false, eq_self, not_true_eq_false, not_false_eq_true, sK76, sK77, sK78, sK79, sK80, sK81, sK82, sK83, sK84, sK85, sK86, sK87, sK88, sK89, sK90, sK91, sK92, sK93, sK94, sK95, sK96, sK97, sK98, sK99, sK100, sL77, sL78, sL79, sL80, sL81, sL82, sL83, sL84, sL85, sL86, sL87, sL88, sL89, sL90, sL91, sL92, sL93, sL94, sL95, sL96, sL97, sL98, sL99, sL100, sR76_5, sR76_16, sR76_18, sR76_19, sR76_20, sR76_21, sR76_23, sR76_25, sR76_26, sR76_27, sR76_28, sR76_29, sR76_30, sR76_31, sR76_32, sR76_33, sR76_34, sR76_37, sR76_38, sR76_39, sR76_40, sR76_41, sR76_42, ↓sB76_5, ↓sB76_16, ↓sB76_18, ↓sB76_19, ↓sB76_20, ↓sB76_21, ↓sB76_23, ↓sB76_25, ↓sB76_26, ↓sB76_27, ↓sB76_28, ↓sB76_29, ↓sB76_30, ↓sB76_31, ↓sB76_32, ↓sB76_33, ↓sB76_34, ↓sB76_37, ↓sB76_38, ↓sB76_39, ↓sB76_40, ↓sB76_41, ↓sB76_42, ris]
    · simp (maxSteps := 1000000) (disch := (first | assumption | exact ne_b rfl | omega)) only [↓reduceIte, ↓zlet_eq, ↓bdR_sI, ↓bdR_sJ, ↓bdR_aI, zc2_some, Option.bind_some, ↓si_m1, ↓si_m2, ↓si_m3, iI_lit, iI_add, iI_sub, iI_mul, leT, leF, ltT, ltF, eqT, eqF, zinT, clI, Int.toNat_natCast, Int.reduceToNat, tN1, tNa, tN0, tNm, if_pos, if_neg, zI_sI, zI_sJ, zI_sR, zJ_sI, zJ_sJ, zJ_sR, zR_sI, zR_sJ, zR_sR, zK_sI, zK_sJ, zK_sR, zL_sI, zL_sJ, zL_sR, zI_aI, zJ_aI, zR_aI, zK_aI, zL_aI, z2_at, z2_a, z2_k, z1_self, z1_ne, true_and, and_true, bIt, bIf, Bool.false_eq_true, Bool.true_eq_false, eq_self, not_true_eq_false, not_false_eq_true, sK76, sK77, sK78, sK79, sK80, sK81, sK82, sK83, sK84, sK85, sK86, sK87, sK88, sK89, sK90, sK91, sK92, sK93, sK94, sK95, sK96, sK97, sK98, sK99, sK100, sL77, sL78, sL79, sL80, sL81, sL82, sL83, sL84, sL85, sL86, sL87, sL88, sL89, sL90, sL91, sL92, sL93, sL94, sL95, sL96, sL97, sL98, sL99, sL100, sR76_5, sR76_16, sR76_18, sR76_19, sR76_20, sR76_21, sR76_23, sR76_25, sR76_26, sR76_27, sR76_28, sR76_29, sR76_30, sR76_31, sR76_32, sR76_33, sR76_34, sR76_37, sR76_38, sR76_39, sR76_40, sR76_41, sR76_42, ↓sB76_5, ↓sB76_16, ↓sB76_18, ↓sB76_19, ↓sB76_20, ↓sB76_21, ↓sB76_23, ↓sB76_25, ↓sB76_26, ↓sB76_27, ↓sB76_28, ↓sB76_29, ↓sB76_30, ↓sB76_31, ↓sB76_32, ↓sB76_33, ↓sB76_34, ↓sB76_37, ↓sB76_38, ↓sB76_39, ↓sB76_40, ↓sB76_41, ↓sB76_42, ris, h17]
theorem isRule_1 {h : Zh} {v : Vw} {tr ra : Nat} {x : Int} (ok : VOK v) (m : KM h v tr ra) (hx : 0 ≤ x ∧ x < RCv v) : fX12_isRule 76 (iI x) h = some (iI 1, h) := by
  have hb := ok.b.2.2
  have on : v.on = true := by
    cases e : v.on
    · unfold RCv at hx; rw [e] at hx; simp at hx; omega
    · rfl
  have s := m.1
  have md := (m.2.2.2.2.2 on).1
  have h5 := md.2.2.2.2.2.1
  have kt := md.1.2.2.2.1.fK
  have r3 := m.tr3
  unfold RCv at hx hb
  rw [on] at hx r3 hb
  rw [if_pos rfl] at hx r3 hb
  have ris : (zR h 76 3).isSome = true := by rw [r3]; rfl
  unfold fX12_isRule
  simp (maxSteps := 1000000) (disch := (first | assumption | exact ne_b rfl | omega)) only [↓reduceIte, ↓zlet_eq, ↓bdR_sI, ↓bdR_sJ, ↓bdR_aI, zc2_some, Option.bind_some, ↓si_m1, ↓si_m2, ↓si_m3, iI_lit, iI_add, iI_sub, iI_mul, leT, leF, ltT, ltF, eqT, eqF, zinT, clI, Int.toNat_natCast, Int.reduceToNat, tN1, tNa, tN0, tNm, if_pos, if_neg, zI_sI, zI_sJ, zI_sR, zJ_sI, zJ_sJ, zJ_sR, zR_sI, zR_sJ, zR_sR, zK_sI, zK_sJ, zK_sR, zL_sI, zL_sJ, zL_sR, zI_aI, zJ_aI, zR_aI, zK_aI, zL_aI, z2_at, z2_a, z2_k, z1_self, z1_ne, true_and, and_true, bIt, bIf, Bool.false_eq_true, Bool.true_eq_false, eq_self, not_true_eq_false, not_false_eq_true, sK76, sK77, sK78, sK79, sK80, sK81, sK82, sK83, sK84, sK85, sK86, sK87, sK88, sK89, sK90, sK91, sK92, sK93, sK94, sK95, sK96, sK97, sK98, sK99, sK100, sL77, sL78, sL79, sL80, sL81, sL82, sL83, sL84, sL85, sL86, sL87, sL88, sL89, sL90, sL91, sL92, sL93, sL94, sL95, sL96, sL97, sL98, sL99, sL100, sR76_5, sR76_16, sR76_18, sR76_19, sR76_20, sR76_21, sR76_23, sR76_25, sR76_26, sR76_27, sR76_28, sR76_29, sR76_30, sR76_31, sR76_32, sR76_33, sR76_34, sR76_37, sR76_38, sR76_39, sR76_40, sR76_41, sR76_42, ↓sB76_5, ↓sB76_16, ↓sB76_18, ↓sB76_19, ↓sB76_20, ↓sB76_21, ↓sB76_23, ↓sB76_25, ↓sB76_26, ↓sB76_27, ↓sB76_28, ↓sB76_29, ↓sB76_30, ↓sB76_31, ↓sB76_32, ↓sB76_33, ↓sB76_34, ↓sB76_37, ↓sB76_38, ↓sB76_39, ↓sB76_40, ↓sB76_41, ↓sB76_42, ris, ↓bd_of r3, kt, h5]
theorem isRule_0 {h : Zh} {v : Vw} {tr ra : Nat} {x : Int} (ok : VOK v) (m : KM h v tr ra) (hr : iR x) (hx : ¬ (0 ≤ x ∧ x < RCv v)) : fX12_isRule 76 (iI x) h = some (iI 0, h) := by
  have hb := ok.b.2.2
  have s := m.1
  have r3 := m.tr3
  have hr1 := hr.1
  have hr2 := hr.2
  unfold fX12_isRule
  cases e : v.on
  · rw [e, if_neg (by decide)] at r3
    have ris : (zR h 76 3).isSome = false := by rw [r3]; rfl
    simp (maxSteps := 1000000) (disch := (first | assumption | exact ne_b rfl | omega)) only [↓reduceIte, ↓zlet_eq, ↓bdR_sI, ↓bdR_sJ, ↓bdR_aI, zc2_some, Option.bind_some, ↓si_m1, ↓si_m2, ↓si_m3, iI_lit, iI_add, iI_sub, iI_mul, leT, leF, ltT, ltF, eqT, eqF, zinT, clI, Int.toNat_natCast, Int.reduceToNat, tN1, tNa, tN0, tNm, if_pos, if_neg, zI_sI, zI_sJ, zI_sR, zJ_sI, zJ_sJ, zJ_sR, zR_sI, zR_sJ, zR_sR, zK_sI, zK_sJ, zK_sR, zL_sI, zL_sJ, zL_sR, zI_aI, zJ_aI, zR_aI, zK_aI, zL_aI, z2_at, z2_a, z2_k, z1_self, z1_ne, true_and, and_true, bIt, bIf, Bool.false_eq_true, Bool.true_eq_false, eq_self, not_true_eq_false, not_false_eq_true, sK76, sK77, sK78, sK79, sK80, sK81, sK82, sK83, sK84, sK85, sK86, sK87, sK88, sK89, sK90, sK91, sK92, sK93, sK94, sK95, sK96, sK97, sK98, sK99, sK100, sL77, sL78, sL79, sL80, sL81, sL82, sL83, sL84, sL85, sL86, sL87, sL88, sL89, sL90, sL91, sL92, sL93, sL94, sL95, sL96, sL97, sL98, sL99, sL100, sR76_5, sR76_16, sR76_18, sR76_19, sR76_20, sR76_21, sR76_23, sR76_25, sR76_26, sR76_27, sR76_28, sR76_29, sR76_30, sR76_31, sR76_32, sR76_33, sR76_34, sR76_37, sR76_38, sR76_39, sR76_40, sR76_41, sR76_42, ↓sB76_5, ↓sB76_16, ↓sB76_18, ↓sB76_19, ↓sB76_20, ↓sB76_21, ↓sB76_23, ↓sB76_25, ↓sB76_26, ↓sB76_27, ↓sB76_28, ↓sB76_29, ↓sB76_30, ↓sB76_31, ↓sB76_32, ↓sB76_33, ↓sB76_34, ↓sB76_37, ↓sB76_38, ↓sB76_39, ↓sB76_40, ↓sB76_41, ↓sB76_42, ris]
  · have md := (m.2.2.2.2.2 e).1
    have h5 := md.2.2.2.2.2.1
    have kt := md.1.2.2.2.1.fK
    unfold RCv at hx hb
    rw [e, if_pos rfl] at hx r3 hb
    have ris : (zR h 76 3).isSome = true := by rw [r3]; rfl
    by_cases c0 : x < 0
    · simp (maxSteps := 1000000) (disch := (first | assumption | exact ne_b rfl | omega)) only [↓reduceIte, ↓zlet_eq, ↓bdR_sI, ↓bdR_sJ, ↓bdR_aI, zc2_some, Option.bind_some, ↓si_m1, ↓si_m2, ↓si_m3, iI_lit, iI_add, iI_sub, iI_mul, leT, leF, ltT, ltF, eqT, eqF, zinT, clI, Int.toNat_natCast, Int.reduceToNat, tN1, tNa, tN0, tNm, if_pos, if_neg, zI_sI, zI_sJ, zI_sR, zJ_sI, zJ_sJ, zJ_sR, zR_sI, zR_sJ, zR_sR, zK_sI, zK_sJ, zK_sR, zL_sI, zL_sJ, zL_sR, zI_aI, zJ_aI, zR_aI, zK_aI, zL_aI, z2_at, z2_a, z2_k, z1_self, z1_ne, true_and, and_true, bIt, bIf, Bool.false_eq_true, Bool.true_eq_false, eq_self, not_true_eq_false, not_false_eq_true, sK76, sK77, sK78, sK79, sK80, sK81, sK82, sK83, sK84, sK85, sK86, sK87, sK88, sK89, sK90, sK91, sK92, sK93, sK94, sK95, sK96, sK97, sK98, sK99, sK100, sL77, sL78, sL79, sL80, sL81, sL82, sL83, sL84, sL85, sL86, sL87, sL88, sL89, sL90, sL91, sL92, sL93, sL94, sL95, sL96, sL97, sL98, sL99, sL100, sR76_5, sR76_16, sR76_18, sR76_19, sR76_20, sR76_21, sR76_23, sR76_25, sR76_26, sR76_27, sR76_28, sR76_29, sR76_30, sR76_31, sR76_32, sR76_33, sR76_34, sR76_37, sR76_38, sR76_39, sR76_40, sR76_41, sR76_42, ↓sB76_5, ↓sB76_16, ↓sB76_18, ↓sB76_19, ↓sB76_20, ↓sB76_21, ↓sB76_23, ↓sB76_25, ↓sB76_26, ↓sB76_27, ↓sB76_28, ↓sB76_29, ↓sB76_30, ↓sB76_31, ↓sB76_32, ↓sB76_33, ↓sB76_34, ↓sB76_37, ↓sB76_38, ↓sB76_39, ↓sB76_40, ↓sB76_41, ↓sB76_42, ris]
    · simp (maxSteps := 1000000) (disch := (first | assumption | exact ne_b rfl | omega)) only [↓reduceIte, ↓zlet_eq, ↓bdR_sI, ↓bdR_sJ, ↓bdR_aI, zc2_some, Option.bind_some, ↓si_m1, ↓si_m2, ↓si_m3, iI_lit, iI_add, iI_sub, iI_mul, leT, leF, ltT, ltF, eqT, eqF, zinT, clI, Int.toNat_natCast, Int.reduceToNat, tN1, tNa, tN0, tNm, if_pos, if_neg, zI_sI, zI_sJ, zI_sR, zJ_sI, zJ_sJ, zJ_sR, zR_sI, zR_sJ, zR_sR, zK_sI, zK_sJ, zK_sR, zL_sI, zL_sJ, zL_sR, zI_aI, zJ_aI, zR_aI, zK_aI, zL_aI, z2_at, z2_a, z2_k, z1_self, z1_ne, true_and, and_true, bIt, bIf, Bool.false_eq_true, Bool.true_eq_false, eq_self, not_true_eq_false, not_false_eq_true, sK76, sK77, sK78, sK79, sK80, sK81, sK82, sK83, sK84, sK85, sK86, sK87, sK88, sK89, sK90, sK91, sK92, sK93, sK94, sK95, sK96, sK97, sK98, sK99, sK100, sL77, sL78, sL79, sL80, sL81, sL82, sL83, sL84, sL85, sL86, sL87, sL88, sL89, sL90, sL91, sL92, sL93, sL94, sL95, sL96, sL97, sL98, sL99, sL100, sR76_5, sR76_16, sR76_18, sR76_19, sR76_20, sR76_21, sR76_23, sR76_25, sR76_26, sR76_27, sR76_28, sR76_29, sR76_30, sR76_31, sR76_32, sR76_33, sR76_34, sR76_37, sR76_38, sR76_39, sR76_40, sR76_41, sR76_42, ↓sB76_5, ↓sB76_16, ↓sB76_18, ↓sB76_19, ↓sB76_20, ↓sB76_21, ↓sB76_23, ↓sB76_25, ↓sB76_26, ↓sB76_27, ↓sB76_28, ↓sB76_29, ↓sB76_30, ↓sB76_31, ↓sB76_32, ↓sB76_33, ↓sB76_34, ↓sB76_37, ↓sB76_38, ↓sB76_39, ↓sB76_40, ↓sB76_41, ↓sB76_42, ris, ↓bd_of r3, kt, h5]
theorem fX12_rowMany_eq {h : Zh} {t : Tk} {tr : Nat} (tok : Tok t) (s : St h) (r3 : zR h 76 3 = some tr) (qt : Tr h tr t) : fX12_rowMany 76 h = some (iI (tR t), h) := by
  obtain ⟨bn4, bn12, bu1, bu4, bnu, bk2, bk5, bkn, bp1, bp2, bpk, bH, bsp, bs1, bs4, bT1, bT16, bR1, bR2, bH1, bff, bff1⟩ := tok.b
  have e0 := fX12_rowsOf_eq (n := ((tn t : Nat) : Int)) (k := tsh t) ⟨by omega, by omega⟩ (by omega) h
  rw [((ff_ok (tn t) (by omega) (tsh t) (by omega)).2 (by omega)).2] at e0
  have e1 := fX11_tilts_eq qt tok
  unfold fX12_rowMany tR
  simp (maxSteps := 1000000) (disch := (first | assumption | exact ne_b rfl | omega)) only [↓reduceIte, ↓zlet_eq, ↓bdR_sI, ↓bdR_sJ, ↓bdR_aI, zc2_some, Option.bind_some, ↓si_m1, ↓si_m2, ↓si_m3, iI_lit, iI_add, iI_sub, iI_mul, leT, leF, ltT, ltF, eqT, eqF, zinT, clI, Int.toNat_natCast, Int.reduceToNat, tN1, tNa, tN0, tNm, if_pos, if_neg, zI_sI, zI_sJ, zI_sR, zJ_sI, zJ_sJ, zJ_sR, zR_sI, zR_sJ, zR_sR, zK_sI, zK_sJ, zK_sR, zL_sI, zL_sJ, zL_sR, zI_aI, zJ_aI, zR_aI, zK_aI, zL_aI, z2_at, z2_a, z2_k, z1_self, z1_ne, true_and, and_true, bIt, bIf, Bool.false_eq_true, Bool.true_eq_false, eq_self, not_true_eq_false, not_false_eq_true, sK76, sK77, sK78, sK79, sK80, sK81, sK82, sK83, sK84, sK85, sK86, sK87, sK88, sK89, sK90, sK91, sK92, sK93, sK94, sK95, sK96, sK97, sK98, sK99, sK100, sL77, sL78, sL79, sL80, sL81, sL82, sL83, sL84, sL85, sL86, sL87, sL88, sL89, sL90, sL91, sL92, sL93, sL94, sL95, sL96, sL97, sL98, sL99, sL100, sR76_5, sR76_16, sR76_18, sR76_19, sR76_20, sR76_21, sR76_23, sR76_25, sR76_26, sR76_27, sR76_28, sR76_29, sR76_30, sR76_31, sR76_32, sR76_33, sR76_34, sR76_37, sR76_38, sR76_39, sR76_40, sR76_41, sR76_42, ↓sB76_5, ↓sB76_16, ↓sB76_18, ↓sB76_19, ↓sB76_20, ↓sB76_21, ↓sB76_23, ↓sB76_25, ↓sB76_26, ↓sB76_27, ↓sB76_28, ↓sB76_29, ↓sB76_30, ↓sB76_31, ↓sB76_32, ↓sB76_33, ↓sB76_34, ↓sB76_37, ↓sB76_38, ↓sB76_39, ↓sB76_40, ↓sB76_41, ↓sB76_42, ↓bd_of r3, qt.fK, qt.f0, qt.f1, qt.f2, qt.f3, qt.f4, qt.f7, qt.f8, qt.f9, e0, e1, jI_int]
  all_goals rfl
theorem isRow_1 {h : Zh} {v : Vw} {tr ra : Nat} {x : Int} (ok : VOK v) (m : KM h v tr ra) (hx : 0 ≤ x ∧ x < RNv v) : fX12_isRow 76 (iI x) h = some (iI 1, h) := by
  have hb := ok.b.2.1
  have on : v.on = true := by
    cases e : v.on
    · unfold RNv at hx; rw [e] at hx; simp at hx; omega
    · rfl
  have s := m.1
  have md := (m.2.2.2.2.2 on).1
  have e1 := fX12_rowMany_eq (ok.2.2.2.2.2.2 on).1 s md.1.2.2.1 md.1.2.2.2.1
  have r3 := m.tr3
  unfold RNv at hx hb
  rw [on] at hx r3 hb
  rw [if_pos rfl] at hx r3 hb
  have ris : (zR h 76 3).isSome = true := by rw [r3]; rfl
  unfold fX12_isRow
  simp (maxSteps := 1000000) (disch := (first | assumption | exact ne_b rfl | omega)) only [↓reduceIte, ↓zlet_eq, ↓bdR_sI, ↓bdR_sJ, ↓bdR_aI, zc2_some, Option.bind_some, ↓si_m1, ↓si_m2, ↓si_m3, iI_lit, iI_add, iI_sub, iI_mul, leT, leF, ltT, ltF, eqT, eqF, zinT, clI, Int.toNat_natCast, Int.reduceToNat, tN1, tNa, tN0, tNm, if_pos, if_neg, zI_sI, zI_sJ, zI_sR, zJ_sI, zJ_sJ, zJ_sR, zR_sI, zR_sJ, zR_sR, zK_sI, zK_sJ, zK_sR, zL_sI, zL_sJ, zL_sR, zI_aI, zJ_aI, zR_aI, zK_aI, zL_aI, z2_at, z2_a, z2_k, z1_self, z1_ne, true_and, and_true, bIt, bIf, Bool.false_eq_true, Bool.true_eq_false, eq_self, not_true_eq_false, not_false_eq_true, sK76, sK77, sK78, sK79, sK80, sK81, sK82, sK83, sK84, sK85, sK86, sK87, sK88, sK89, sK90, sK91, sK92, sK93, sK94, sK95, sK96, sK97, sK98, sK99, sK100, sL77, sL78, sL79, sL80, sL81, sL82, sL83, sL84, sL85, sL86, sL87, sL88, sL89, sL90, sL91, sL92, sL93, sL94, sL95, sL96, sL97, sL98, sL99, sL100, sR76_5, sR76_16, sR76_18, sR76_19, sR76_20, sR76_21, sR76_23, sR76_25, sR76_26, sR76_27, sR76_28, sR76_29, sR76_30, sR76_31, sR76_32, sR76_33, sR76_34, sR76_37, sR76_38, sR76_39, sR76_40, sR76_41, sR76_42, ↓sB76_5, ↓sB76_16, ↓sB76_18, ↓sB76_19, ↓sB76_20, ↓sB76_21, ↓sB76_23, ↓sB76_25, ↓sB76_26, ↓sB76_27, ↓sB76_28, ↓sB76_29, ↓sB76_30, ↓sB76_31, ↓sB76_32, ↓sB76_33, ↓sB76_34, ↓sB76_37, ↓sB76_38, ↓sB76_39, ↓sB76_40, ↓sB76_41, ↓sB76_42, ris, e1]
theorem isRow_0 {h : Zh} {v : Vw} {tr ra : Nat} {x : Int} (ok : VOK v) (m : KM h v tr ra) (hr : iR x) (hx : ¬ (0 ≤ x ∧ x < RNv v)) : fX12_isRow 76 (iI x) h = some (iI 0, h) := by
  have hb := ok.b.2.1
  have s := m.1
  have r3 := m.tr3
  have hr1 := hr.1
  have hr2 := hr.2
  unfold fX12_isRow
  cases e : v.on
  · rw [e, if_neg (by decide)] at r3
    have ris : (zR h 76 3).isSome = false := by rw [r3]; rfl
    simp (maxSteps := 1000000) (disch := (first | assumption | exact ne_b rfl | omega)) only [↓reduceIte, ↓zlet_eq, ↓bdR_sI, ↓bdR_sJ, ↓bdR_aI, zc2_some, Option.bind_some, ↓si_m1, ↓si_m2, ↓si_m3, iI_lit, iI_add, iI_sub, iI_mul, leT, leF, ltT, ltF, eqT, eqF, zinT, clI, Int.toNat_natCast, Int.reduceToNat, tN1, tNa, tN0, tNm, if_pos, if_neg, zI_sI, zI_sJ, zI_sR, zJ_sI, zJ_sJ, zJ_sR, zR_sI, zR_sJ, zR_sR, zK_sI, zK_sJ, zK_sR, zL_sI, zL_sJ, zL_sR, zI_aI, zJ_aI, zR_aI, zK_aI, zL_aI, z2_at, z2_a, z2_k, z1_self, z1_ne, true_and, and_true, bIt, bIf, Bool.false_eq_true, Bool.true_eq_false, eq_self, not_true_eq_false, not_false_eq_true, sK76, sK77, sK78, sK79, sK80, sK81, sK82, sK83, sK84, sK85, sK86, sK87, sK88, sK89, sK90, sK91, sK92, sK93, sK94, sK95, sK96, sK97, sK98, sK99, sK100, sL77, sL78, sL79, sL80, sL81, sL82, sL83, sL84, sL85, sL86, sL87, sL88, sL89, sL90, sL91, sL92, sL93, sL94, sL95, sL96, sL97, sL98, sL99, sL100, sR76_5, sR76_16, sR76_18, sR76_19, sR76_20, sR76_21, sR76_23, sR76_25, sR76_26, sR76_27, sR76_28, sR76_29, sR76_30, sR76_31, sR76_32, sR76_33, sR76_34, sR76_37, sR76_38, sR76_39, sR76_40, sR76_41, sR76_42, ↓sB76_5, ↓sB76_16, ↓sB76_18, ↓sB76_19, ↓sB76_20, ↓sB76_21, ↓sB76_23, ↓sB76_25, ↓sB76_26, ↓sB76_27, ↓sB76_28, ↓sB76_29, ↓sB76_30, ↓sB76_31, ↓sB76_32, ↓sB76_33, ↓sB76_34, ↓sB76_37, ↓sB76_38, ↓sB76_39, ↓sB76_40, ↓sB76_41, ↓sB76_42, ris]
  · have md := (m.2.2.2.2.2 e).1
    have e1 := fX12_rowMany_eq (ok.2.2.2.2.2.2 e).1 s md.1.2.2.1 md.1.2.2.2.1
    unfold RNv at hx hb
    rw [e, if_pos rfl] at hx r3 hb
    have ris : (zR h 76 3).isSome = true := by rw [r3]; rfl
    by_cases c0 : x < 0
    · simp (maxSteps := 1000000) (disch := (first | assumption | exact ne_b rfl | omega)) only [↓reduceIte, ↓zlet_eq, ↓bdR_sI, ↓bdR_sJ, ↓bdR_aI, zc2_some, Option.bind_some, ↓si_m1, ↓si_m2, ↓si_m3, iI_lit, iI_add, iI_sub, iI_mul, leT, leF, ltT, ltF, eqT, eqF, zinT, clI, Int.toNat_natCast, Int.reduceToNat, tN1, tNa, tN0, tNm, if_pos, if_neg, zI_sI, zI_sJ, zI_sR, zJ_sI, zJ_sJ, zJ_sR, zR_sI, zR_sJ, zR_sR, zK_sI, zK_sJ, zK_sR, zL_sI, zL_sJ, zL_sR, zI_aI, zJ_aI, zR_aI, zK_aI, zL_aI, z2_at, z2_a, z2_k, z1_self, z1_ne, true_and, and_true, bIt, bIf, Bool.false_eq_true, Bool.true_eq_false, eq_self, not_true_eq_false, not_false_eq_true, sK76, sK77, sK78, sK79, sK80, sK81, sK82, sK83, sK84, sK85, sK86, sK87, sK88, sK89, sK90, sK91, sK92, sK93, sK94, sK95, sK96, sK97, sK98, sK99, sK100, sL77, sL78, sL79, sL80, sL81, sL82, sL83, sL84, sL85, sL86, sL87, sL88, sL89, sL90, sL91, sL92, sL93, sL94, sL95, sL96, sL97, sL98, sL99, sL100, sR76_5, sR76_16, sR76_18, sR76_19, sR76_20, sR76_21, sR76_23, sR76_25, sR76_26, sR76_27, sR76_28, sR76_29, sR76_30, sR76_31, sR76_32, sR76_33, sR76_34, sR76_37, sR76_38, sR76_39, sR76_40, sR76_41, sR76_42, ↓sB76_5, ↓sB76_16, ↓sB76_18, ↓sB76_19, ↓sB76_20, ↓sB76_21, ↓sB76_23, ↓sB76_25, ↓sB76_26, ↓sB76_27, ↓sB76_28, ↓sB76_29, ↓sB76_30, ↓sB76_31, ↓sB76_32, ↓sB76_33, ↓sB76_34, ↓sB76_37, ↓sB76_38, ↓sB76_39, ↓sB76_40, ↓sB76_41, ↓sB76_42, ris]
    · simp (maxSteps := 1000000) (disch := (first | assumption | exact ne_b rfl | omega)) only [↓reduceIte, ↓zlet_eq, ↓bdR_sI, ↓bdR_sJ, ↓bdR_aI, zc2_some, Option.bind_some, ↓si_m1, ↓si_m2, ↓si_m3, iI_lit, iI_add, iI_sub, iI_mul, leT, leF, ltT, ltF, eqT, eqF, zinT, clI, Int.toNat_natCast, Int.reduceToNat, tN1, tNa, tN0, tNm, if_pos, if_neg, zI_sI, zI_sJ, zI_sR, zJ_sI, zJ_sJ, zJ_sR, zR_sI, zR_sJ, zR_sR, zK_sI, zK_sJ, zK_sR, zL_sI, zL_sJ, zL_sR, zI_aI, zJ_aI, zR_aI, zK_aI, zL_aI, z2_at, z2_a, z2_k, z1_self, z1_ne, true_and, and_true, bIt, bIf, Bool.false_eq_true, Bool.true_eq_false, eq_self, not_true_eq_false, not_false_eq_true, sK76, sK77, sK78, sK79, sK80, sK81, sK82, sK83, sK84, sK85, sK86, sK87, sK88, sK89, sK90, sK91, sK92, sK93, sK94, sK95, sK96, sK97, sK98, sK99, sK100, sL77, sL78, sL79, sL80, sL81, sL82, sL83, sL84, sL85, sL86, sL87, sL88, sL89, sL90, sL91, sL92, sL93, sL94, sL95, sL96, sL97, sL98, sL99, sL100, sR76_5, sR76_16, sR76_18, sR76_19, sR76_20, sR76_21, sR76_23, sR76_25, sR76_26, sR76_27, sR76_28, sR76_29, sR76_30, sR76_31, sR76_32, sR76_33, sR76_34, sR76_37, sR76_38, sR76_39, sR76_40, sR76_41, sR76_42, ↓sB76_5, ↓sB76_16, ↓sB76_18, ↓sB76_19, ↓sB76_20, ↓sB76_21, ↓sB76_23, ↓sB76_25, ↓sB76_26, ↓sB76_27, ↓sB76_28, ↓sB76_29, ↓sB76_30, ↓sB76_31, ↓sB76_32, ↓sB76_33, ↓sB76_34, ↓sB76_37, ↓sB76_38, ↓sB76_39, ↓sB76_40, ↓sB76_41, ↓sB76_42, ris, e1]
theorem RCv_on {v : Vw} {x : Int} (hx : 0 ≤ x ∧ x < RCv v) : v.on = true ∧ ∃ i : Nat, x = i ∧ i < v.rc := by
  unfold RCv at hx
  cases e : v.on
  · rw [e] at hx; simp at hx; omega
  · rw [e, if_pos rfl] at hx; exact ⟨rfl, x.toNat, by omega, by omega⟩
theorem HNv_on {v : Vw} {x : Int} (hx : 0 ≤ x ∧ x < HNv v) : v.on = true ∧ ∃ i : Nat, x = i ∧ i < tH v.t := by
  unfold HNv at hx
  cases e : v.on
  · rw [e] at hx; simp at hx; omega
  · rw [e, if_pos rfl] at hx; exact ⟨rfl, x.toNat, by omega, by omega⟩
theorem RNv_on {v : Vw} {x : Int} (hx : 0 ≤ x ∧ x < RNv v) : v.on = true ∧ ∃ i : Nat, x = i ∧ i < tR v.t := by
  unfold RNv at hx
  cases e : v.on
  · rw [e] at hx; simp at hx; omega
  · rw [e, if_pos rfl] at hx; exact ⟨rfl, x.toNat, by omega, by omega⟩
/-- the class's side, where the ledger has changed -/
theorem KC.led {A : Nat → Prop} {h h1 : Zh} {v : Vw} {u u' tr ra CR OW se sp : Nat} {rdy : Bool} (ok : VOK v) (on : v.on = true) (c : KC h v u tr ra) (lg : LG h1 v.td v.t v.rc v.ru CR OW se sp rdy) (f : Fc A h h1) (hA : ∀ i, A i → (25 ≤ i ∧ i ≤ 64) ∨ i = 75 ∨ 101 ≤ i) (hne : CR ≠ tr ∧ OW ≠ tr ∧ CR ≠ ra ∧ OW ≠ ra) (h1' : se ≤ 600 * u') (h2' : sp ≤ 4 * u') (h3' : zN h1 ≤ 101 + 4 * u') (h4' : Pot h1 CR OW ≤ 440000 + 4 * u') : KC h1 v u' tr ra := by
  obtain ⟨a1, a2, a3, a4, a5, a6, a7, a8, a9, a10, a11, a12, a13, -⟩ := c
  have hN := a1.1
  have htd := ok.2.1
  have hic := ok.2.2.2.2.1
  have hz := f.1
  have nA : ∀ i, (i < 25 ∨ (64 < i ∧ i < 75) ∨ (75 < i ∧ i < 101)) → ¬ A i := fun i hi m => by have := hA i m; omega
  have e : ∀ i, (i < 25 ∨ (64 < i ∧ i < 75) ∨ (75 < i ∧ i < 101)) → zI h1 i = zI h i := fun i hi => f.I (by omega) (nA i hi)
  refine ⟨lg.1, by rw [e 0 (by omega)]; exact a2, by rw [e 1 (by omega)]; exact a3, by rw [e 0 (by omega)]; exact a4, by rw [e 0 (by omega)]; exact a5, by rw [f.R (by omega) (nA 0 (by omega))]; exact a6, by rw [f.R (by omega) (nA 0 (by omega))]; exact a7, by rw [e 0 (by omega)]; exact a8, a9.fc f (by omega) (nA _ (by omega)) (nA _ (by omega)) (nA _ (by omega)), fun k hk => (a10 k hk).fc f (by omega) (nA _ (by omega)) (nA _ (by omega)) (nA _ (by omega)), by omega, by omega, fun i hi => (lg.2.2.2.2.2.2.2.1 i hi).1, CR, OW, se, sp, hne, h1', h2', h3', h4', lg.2.2.2.2.1, lg.2.2.2.2.2.2.1, fun q => (by rw [on] at q; cases q), fun _ => ⟨rdy, lg⟩⟩
/-- its ledger -/
theorem KC.lg {h : Zh} {v : Vw} {u tr ra : Nat} (c : KC h v u tr ra) (on : v.on = true) : ∃ CR OW se sp rdy, LG h v.td v.t v.rc v.ru CR OW se sp rdy ∧ (CR ≠ tr ∧ OW ≠ tr ∧ CR ≠ ra ∧ OW ≠ ra) ∧ se ≤ 600 * u ∧ sp ≤ 4 * u ∧ zN h ≤ 101 + 4 * u ∧ Pot h CR OW ≤ 440000 + 4 * u := by
  obtain ⟨a1, a2, a3, a4, a5, a6, a7, a8, a9, a10, a11, a12, a13, CR, OW, se, sp, b1, b2, b3, b4, b5, b6, b7, b8, b9⟩ := c
  obtain ⟨rdy, lg⟩ := b9 on
  exact ⟨CR, OW, se, sp, rdy, lg, b1, b2, b3, b4, b5⟩
/-- a change of the ledger without new cells -/
theorem KC.ledm {S : List Nat} {h h1 : Zh} {v : Vw} {u u' tr ra CR OW se sp sp' : Nat} {rdy : Bool} (ok : VOK v) (on : v.on = true) (c : KC h v u tr ra) (hne : CR ≠ tr ∧ OW ≠ tr ∧ CR ≠ ra ∧ OW ≠ ra) (h1' : se ≤ 600 * u) (h2' : sp ≤ 4 * u) (h3' : zN h ≤ 101 + 4 * u) (h4' : Pot h CR OW ≤ 440000 + 4 * u) (lg : LG h1 v.td v.t v.rc v.ru CR OW se sp' rdy) (f : Fm S h h1) (hS : ∀ i, i ∈ S → (25 ≤ i ∧ i ≤ 64) ∨ i = 75) (hsp : sp' ≤ sp + 1) (hu : u + 1 ≤ u') : KC h1 v u' tr ra ∧ Fc (CFr tr ra) h h1 := by
  refine ⟨c.led ok on lg f.c (fun i m => by have := hS i m; omega) hne (by omega) (by omega) (by rw [f.N]; omega) ?_, f.c.mono (fun i _ m => by have := hS i m; unfold CFr; omega)⟩
  unfold Pot at h4' ⊢
  rw [f.S, f.L]
  omega
theorem laid_c {h : Zh} {v : Vw} {u tr ra i : Nat} (ok : VOK v) (on : v.on = true) (c : KC h v u tr ra) (hi : i < v.rc) (hu : u ≤ 60000) : ∃ h1, fX4_laidBy 25 (iI i) h = some (54 + 2 * i, h1) ∧ KC h1 v (u + 1) tr ra ∧ Fc (CFr tr ra) h h1 ∧ LFd h1 v.t (v.ru i) i ∧ ∀ j, j < v.rc → LFd h v.t (v.ru j) j → LFd h1 v.t (v.ru j) j := by
  obtain ⟨CR, OW, se, sp, rdy, lg, b1, b2, b3, b4, b5⟩ := c.lg on
  have tok := (ok.2.2.2.2.2.2 on).1
  have hrc := (ok.2.2.2.2.2.2 on).2.1
  obtain ⟨h1, CR', OW', se', sp', rdy', e1, e2, e3, e4, e5, e6, e7⟩ := fX4_laidBy_eq tok lg hi (by omega) (by omega) (by omega) (fun hH => by have := Pot_ok (h := h) (CR := CR) (OW := OW) tok hH; omega)
  have hp := Pot_cst tok e7
  have htr := c.2.2.2.2.2.2.2.2.2.2.1
  have hra := c.2.2.2.2.2.2.2.2.2.2.2.1
  have hcr := lg.2.2.2.2.1.2.2.2.2.2.2.2.1
  have how := lg.2.2.2.2.1.2.2.2.2.2.2.2.2.1
  obtain ⟨c1, -, c3, c4⟩ := e7
  refine ⟨h1, e1, c.led ok on e2 e4 (fun j hj => by omega) (by omega) (by omega) (by omega) (by omega) (by omega), e4.mono (fun j _ hj => by unfold CFr; omega), e3, fun j hj lj => ?_⟩
  by_cases q : j = i
  · rw [q]; exact e3
  · have hN := c.1.1
    exact lj.fc e4 (by omega) (fun m => by omega) (fun m => by omega)
