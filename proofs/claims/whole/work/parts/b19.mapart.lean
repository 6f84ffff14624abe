/-! the model: hands apart -/
theorem fX12_apartNow_eq {h : Zh} {t : Tk} {tr ra rc i j : Nat} {ru : Nat → Nat} (tok : Tok t) (md : MD h t tr ra rc ru) (hi : i < rc) (hj : j < rc) : ∃ h', fX12_apartNow 76 (iI i) (iI j) h = some (iI (apN (lay t (ru i)) (lay t (ru j)) (tH t)), h') ∧ MFl h h' ∧ MD h' t tr ra rc ru := by
  obtain ⟨bn4, bn12, bu1, bu4, bnu, bk2, bk5, bkn, bp1, bp2, bpk, bH, bsp, bs1, bs4, bT1, bT16, bR1, bR2, bH1, bff, bff1⟩ := tok.b
  have sg := md.1.1
  have := lp_cnt (body := fun q : Int32 × Int32 × Zh => bX12_apartNow_5 h 76 (iI i) (iI j) q.1 q.2.1 q.2.2) (tH t) (fun x z => ∃ h1, z = ((iI (apN (lay t (ru i)) (lay t (ru j)) x : Nat), iI (x : Int), h1) : Int32 × Int32 × Zh) ∧ MFl h h1 ∧ MD h1 t tr ra rc ru) (fun e z => z.1 = iI (apN (lay t (ru i)) (lay t (ru j)) (tH t) : Nat) ∧ MFl h z.2.2 ∧ MD z.2.2 t tr ra rc ru) ?_ ?_ (by omega) (s := (iI 0, iI 0, h)) ⟨h, rfl, MFl.rf, md⟩
  · obtain ⟨e, z, l1, l2, l3, l4⟩ := this
    refine ⟨z.2.2, ?_, l3, l4⟩
    unfold fX12_apartNow
    rw [zlet_eq]
    refine (lp_bd l1).trans ?_
    show some (z.1, z.2.2) = _
    rw [l2]
  · intro x z hx ⟨h1, ez, k1, k2⟩
    subst ez
    obtain ⟨h2, p1, p2, p3⟩ := fX12_laysNow_eq tok k2 hi hx
    obtain ⟨h3, q1, q2, q3⟩ := fX12_laysNow_eq tok p3 hj hx
    have h17 := k2.1.2.2.2.2.1.1
    have s1 := k2.1.1
    have hle := apN_le (lay t (ru i)) (lay t (ru j)) x
    have b1 := lay_i tok (k := ru i) hx
    have b2 := lay_i tok (k := ru j) hx
    refine Or.inl ⟨(iI (apN (lay t (ru i)) (lay t (ru j)) (x + 1) : Nat), iI ((x + 1 : Nat) : Int), h3), ?_, h3, rfl, (k1.tr p2).tr q2, q3⟩
    show bX12_apartNow_5 h 76 (iI i) (iI j) (iI (apN (lay t (ru i)) (lay t (ru j)) x : Nat)) (iI x) h1 = _
    rw [apN_s]
    generalize apN (lay t (ru i)) (lay t (ru j)) x = v at *
    unfold bX12_apartNow_5
    by_cases c : lay t (ru i) x = lay t (ru j) x
    · rw [if_pos c]
      simp (maxSteps := 1000000) (disch := (first | assumption | exact ne_b rfl | omega)) only [↓reduceIte, ↓zlet_eq, ↓bdR_sI, ↓bdR_sJ, ↓bdR_aI, zc2_some, Option.bind_some, ↓si_m1, ↓si_m2, ↓si_m3, iI_lit, iI_add, iI_sub, iI_mul, leT, leF, ltT, ltF, eqT, eqF, zinT, clI, Int.toNat_natCast, Int.reduceToNat, tN1, tNa, tN0, tNm, if_pos, if_neg, zI_sI, zI_sJ, zI_sR, zJ_sI, zJ_sJ, zJ_sR, zR_sI, zR_sJ, zR_sR, zK_sI, zK_sJ, zK_sR, zL_sI, zL_sJ, zL_sR, zI_aI, zJ_aI, zR_aI, zK_aI, zL_aI, z2_at, z2_a, z2_k, z1_self, z1_ne, true_and, and_true, bIt, bIf, Bool.false_eq_true, Bool.true_eq_false, eq_self, not_true_eq_false, not_false_eq_true, sK76, sK77, sK78, sK79, sK80, sK81, sK82, sK83, sK84, sK85, sK86, sK87, sK88, sK89, sK90, sK91, sK92, sK93, sK94, sK95, sK96, sK97, sK98, sK99, sK100, sL77, sL78, sL79, sL80, sL81, sL82, sL83, sL84, sL85, sL86, sL87, sL88, sL89, sL90, sL91, sL92, sL93, sL94, sL95, sL96, sL97, sL98, sL99, sL100, sR76_5, sR76_16, sR76_18, sR76_19, sR76_20, sR76_21, sR76_23, sR76_25, sR76_26, sR76_27, sR76_28, sR76_29, sR76_30, sR76_31, sR76_32, sR76_33, sR76_34, sR76_37, sR76_38, sR76_39, sR76_40, sR76_41, sR76_42, ↓sB76_5, ↓sB76_16, ↓sB76_18, ↓sB76_19, ↓sB76_20, ↓sB76_21, ↓sB76_23, ↓sB76_25, ↓sB76_26, ↓sB76_27, ↓sB76_28, ↓sB76_29, ↓sB76_30, ↓sB76_31, ↓sB76_32, ↓sB76_33, ↓sB76_34, ↓sB76_37, ↓sB76_38, ↓sB76_39, ↓sB76_40, ↓sB76_41, ↓sB76_42, h17, ↓zc_of p1, ↓zc_of q1]
      all_goals rfl
    · rw [if_neg c]
      simp (maxSteps := 1000000) (disch := (first | assumption | exact ne_b rfl | omega)) only [↓reduceIte, ↓zlet_eq, ↓bdR_sI, ↓bdR_sJ, ↓bdR_aI, zc2_some, Option.bind_some, ↓si_m1, ↓si_m2, ↓si_m3, iI_lit, iI_add, iI_sub, iI_mul, leT, leF, ltT, ltF, eqT, eqF, zinT, clI, Int.toNat_natCast, Int.reduceToNat, tN1, tNa, tN0, tNm, if_pos, if_neg, zI_sI, zI_sJ, zI_sR, zJ_sI, zJ_sJ, zJ_sR, zR_sI, zR_sJ, zR_sR, zK_sI, zK_sJ, zK_sR, zL_sI, zL_sJ, zL_sR, zI_aI, zJ_aI, zR_aI, zK_aI, zL_aI, z2_at, z2_a, z2_k, z1_self, z1_ne, true_and, and_true, bIt, bIf, Bool.false_eq_true, Bool.true_eq_false, eq_self, not_true_eq_false, not_false_eq_true, sK76, sK77, sK78, sK79, sK80, sK81, sK82, sK83, sK84, sK85, sK86, sK87, sK88, sK89, sK90, sK91, sK92, sK93, sK94, sK95, sK96, sK97, sK98, sK99, sK100, sL77, sL78, sL79, sL80, sL81, sL82, sL83, sL84, sL85, sL86, sL87, sL88, sL89, sL90, sL91, sL92, sL93, sL94, sL95, sL96, sL97, sL98, sL99, sL100, sR76_5, sR76_16, sR76_18, sR76_19, sR76_20, sR76_21, sR76_23, sR76_25, sR76_26, sR76_27, sR76_28, sR76_29, sR76_30, sR76_31, sR76_32, sR76_33, sR76_34, sR76_37, sR76_38, sR76_39, sR76_40, sR76_41, sR76_42, ↓sB76_5, ↓sB76_16, ↓sB76_18, ↓sB76_19, ↓sB76_20, ↓sB76_21, ↓sB76_23, ↓sB76_25, ↓sB76_26, ↓sB76_27, ↓sB76_28, ↓sB76_29, ↓sB76_30, ↓sB76_31, ↓sB76_32, ↓sB76_33, ↓sB76_34, ↓sB76_37, ↓sB76_38, ↓sB76_39, ↓sB76_40, ↓sB76_41, ↓sB76_42, h17, ↓zc_of p1, ↓zc_of q1]
      all_goals rfl
  · intro z ⟨h1, ez, k1, k2⟩
    subst ez
    have h17 := k2.1.2.2.2.2.1.1
    refine ⟨0, (iI (apN (lay t (ru i)) (lay t (ru j)) (tH t) : Nat), iI (tH t), h1), ?_, rfl, k1, k2⟩
    show bX12_apartNow_5 h 76 (iI i) (iI j) (iI (apN (lay t (ru i)) (lay t (ru j)) (tH t) : Nat)) (iI (tH t)) h1 = _
    unfold bX12_apartNow_5
    simp (maxSteps := 1000000) (disch := (first | assumption | exact ne_b rfl | omega)) only [↓reduceIte, ↓zlet_eq, ↓bdR_sI, ↓bdR_sJ, ↓bdR_aI, zc2_some, Option.bind_some, ↓si_m1, ↓si_m2, ↓si_m3, iI_lit, iI_add, iI_sub, iI_mul, leT, leF, ltT, ltF, eqT, eqF, zinT, clI, Int.toNat_natCast, Int.reduceToNat, tN1, tNa, tN0, tNm, if_pos, if_neg, zI_sI, zI_sJ, zI_sR, zJ_sI, zJ_sJ, zJ_sR, zR_sI, zR_sJ, zR_sR, zK_sI, zK_sJ, zK_sR, zL_sI, zL_sJ, zL_sR, zI_aI, zJ_aI, zR_aI, zK_aI, zL_aI, z2_at, z2_a, z2_k, z1_self, z1_ne, true_and, and_true, bIt, bIf, Bool.false_eq_true, Bool.true_eq_false, eq_self, not_true_eq_false, not_false_eq_true, sK76, sK77, sK78, sK79, sK80, sK81, sK82, sK83, sK84, sK85, sK86, sK87, sK88, sK89, sK90, sK91, sK92, sK93, sK94, sK95, sK96, sK97, sK98, sK99, sK100, sL77, sL78, sL79, sL80, sL81, sL82, sL83, sL84, sL85, sL86, sL87, sL88, sL89, sL90, sL91, sL92, sL93, sL94, sL95, sL96, sL97, sL98, sL99, sL100, sR76_5, sR76_16, sR76_18, sR76_19, sR76_20, sR76_21, sR76_23, sR76_25, sR76_26, sR76_27, sR76_28, sR76_29, sR76_30, sR76_31, sR76_32, sR76_33, sR76_34, sR76_37, sR76_38, sR76_39, sR76_40, sR76_41, sR76_42, ↓sB76_5, ↓sB76_16, ↓sB76_18, ↓sB76_19, ↓sB76_20, ↓sB76_21, ↓sB76_23, ↓sB76_25, ↓sB76_26, ↓sB76_27, ↓sB76_28, ↓sB76_29, ↓sB76_30, ↓sB76_31, ↓sB76_32, ↓sB76_33, ↓sB76_34, ↓sB76_37, ↓sB76_38, ↓sB76_39, ↓sB76_40, ↓sB76_41, ↓sB76_42, h17]
