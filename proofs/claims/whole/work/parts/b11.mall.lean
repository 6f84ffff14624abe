/-! the model: all rows that a rule lays; the first with a row; the first clash -/
theorem fX12_laysAll_eq {h : Zh} {t : Tk} {tr ra rc i : Nat} {ru : Nat → Nat} (tok : Tok t) (md : MD h t tr ra rc ru) (hi : i < rc) : ∃ h', fX12_laysAll 76 (iI i) h = some h' ∧ MFr h h' ∧ MD h' t tr ra rc ru ∧ ∀ x, x < tH t → zI h' 84 x = iI (lay t (ru i) x) := by
  obtain ⟨bn4, bn12, bu1, bu4, bnu, bk2, bk5, bkn, bp1, bp2, bpk, bH, bsp, bs1, bs4, bT1, bT16, bR1, bR2, bH1, bff, bff1⟩ := tok.b
  have sg := md.1.1
  have := lp_cnt (body := fun q : Int32 × Zh => bX12_laysAll_2 h 76 (iI i) q.1 q.2) (tH t) (fun x z => ∃ h1, z = ((iI (x : Int), h1) : Int32 × Zh) ∧ MFr h h1 ∧ MD h1 t tr ra rc ru ∧ ∀ y, y < x → zI h1 84 y = iI (lay t (ru i) y)) (fun e z => MFr h z.2 ∧ MD z.2 t tr ra rc ru ∧ ∀ y, y < tH t → zI z.2 84 y = iI (lay t (ru i) y)) ?_ ?_ (by omega) (s := (iI 0, h)) ⟨h, rfl, MFr.rf, md, fun y hy => by omega⟩
  · obtain ⟨e, z, l1, l2, l3, l4⟩ := this
    refine ⟨z.2, ?_, l2, l3, l4⟩
    unfold fX12_laysAll
    rw [zlet_eq]
    exact (lp_bd l1)
  · intro x z hx ⟨h1, ez, k1, k2, k3⟩
    subst ez
    obtain ⟨h2, p1, p2, p3⟩ := fX12_laysNow_eq tok k2 hi hx
    have h17 := k2.1.2.2.2.2.1.1
    have s1 := k2.1.1
    have fm : Fm [84] h2 (zsI h2 84 x (iI (lay t (ru i) x))) := Fm_sI _ _ _ (by simp)
    refine Or.inl ⟨(iI ((x + 1 : Nat) : Int), zsI h2 84 x (iI (lay t (ru i) x))), ?_, _, rfl, (k1.tr p2.r).tr (MFr.of fm (by simp)), p3.fm fm (by simp), fun y hy => ?_⟩
    · show bX12_laysAll_2 h 76 (iI i) (iI x) h1 = _
      unfold bX12_laysAll_2
      simp (maxSteps := 1000000) (disch := (first | assumption | exact ne_b rfl | omega)) only [↓reduceIte, ↓zlet_eq, ↓bdR_sI, ↓bdR_sJ, ↓bdR_aI, zc2_some, Option.bind_some, ↓si_m1, ↓si_m2, ↓si_m3, iI_lit, iI_add, iI_sub, iI_mul, leT, leF, ltT, ltF, eqT, eqF, zinT, clI, Int.toNat_natCast, Int.reduceToNat, tN1, tNa, tN0, tNm, if_pos, if_neg, zI_sI, zI_sJ, zI_sR, zJ_sI, zJ_sJ, zJ_sR, zR_sI, zR_sJ, zR_sR, zK_sI, zK_sJ, zK_sR, zL_sI, zL_sJ, zL_sR, zI_aI, zJ_aI, zR_aI, zK_aI, zL_aI, z2_at, z2_a, z2_k, z1_self, z1_ne, true_and, and_true, bIt, bIf, Bool.false_eq_true, Bool.true_eq_false, eq_self, not_true_eq_false, not_false_eq_true, sK76, sK77, sK78, sK79, sK80, sK81, sK82, sK83, sK84, sK85, sK86, sK87, sK88, sK89, sK90, sK91, sK92, sK93, sK94, sK95, sK96, sK97, sK98, sK99, sK100, sL77, sL78, sL79, sL80, sL81, sL82, sL83, sL84, sL85, sL86, sL87, sL88, sL89, sL90, sL91, sL92, sL93, sL94, sL95, sL96, sL97, sL98, sL99, sL100, sR76_5, sR76_16, sR76_18, sR76_19, sR76_20, sR76_21, sR76_23, sR76_25, sR76_26, sR76_27, sR76_28, sR76_29, sR76_30, sR76_31, sR76_32, sR76_33, sR76_34, sR76_37, sR76_38, sR76_39, sR76_40, sR76_41, sR76_42, ↓sB76_5, ↓sB76_16, ↓sB76_18, ↓sB76_19, ↓sB76_20, ↓sB76_21, ↓sB76_23, ↓sB76_25, ↓sB76_26, ↓sB76_27, ↓sB76_28, ↓sB76_29, ↓sB76_30, ↓sB76_31, ↓sB76_32, ↓sB76_33, ↓sB76_34, ↓sB76_37, ↓sB76_38, ↓sB76_39, ↓sB76_40, ↓sB76_41, ↓sB76_42, h17, ↓zc_of p1]
      all_goals rfl
    · by_cases c : y = x
      · rw [c, zI_sI, z2_at]
      · rw [zI_sI, z2_k _ _ _ c, p2.1.I (by decide)]
        exact k3 y (by omega)
  · intro z ⟨h1, ez, k1, k2, k3⟩
    subst ez
    have h17 := k2.1.2.2.2.2.1.1
    refine ⟨0, (iI (tH t), h1), ?_, k1, k2, k3⟩
    show bX12_laysAll_2 h 76 (iI i) (iI (tH t)) h1 = _
    unfold bX12_laysAll_2
    simp (maxSteps := 1000000) (disch := (first | assumption | exact ne_b rfl | omega)) only [↓reduceIte, ↓zlet_eq, ↓bdR_sI, ↓bdR_sJ, ↓bdR_aI, zc2_some, Option.bind_some, ↓si_m1, ↓si_m2, ↓si_m3, iI_lit, iI_add, iI_sub, iI_mul, leT, leF, ltT, ltF, eqT, eqF, zinT, clI, Int.toNat_natCast, Int.reduceToNat, tN1, tNa, tN0, tNm, if_pos, if_neg, zI_sI, zI_sJ, zI_sR, zJ_sI, zJ_sJ, zJ_sR, zR_sI, zR_sJ, zR_sR, zK_sI, zK_sJ, zK_sR, zL_sI, zL_sJ, zL_sR, zI_aI, zJ_aI, zR_aI, zK_aI, zL_aI, z2_at, z2_a, z2_k, z1_self, z1_ne, true_and, and_true, bIt, bIf, Bool.false_eq_true, Bool.true_eq_false, eq_self, not_true_eq_false, not_false_eq_true, sK76, sK77, sK78, sK79, sK80, sK81, sK82, sK83, sK84, sK85, sK86, sK87, sK88, sK89, sK90, sK91, sK92, sK93, sK94, sK95, sK96, sK97, sK98, sK99, sK100, sL77, sL78, sL79, sL80, sL81, sL82, sL83, sL84, sL85, sL86, sL87, sL88, sL89, sL90, sL91, sL92, sL93, sL94, sL95, sL96, sL97, sL98, sL99, sL100, sR76_5, sR76_16, sR76_18, sR76_19, sR76_20, sR76_21, sR76_23, sR76_25, sR76_26, sR76_27, sR76_28, sR76_29, sR76_30, sR76_31, sR76_32, sR76_33, sR76_34, sR76_37, sR76_38, sR76_39, sR76_40, sR76_41, sR76_42, ↓sB76_5, ↓sB76_16, ↓sB76_18, ↓sB76_19, ↓sB76_20, ↓sB76_21, ↓sB76_23, ↓sB76_25, ↓sB76_26, ↓sB76_27, ↓sB76_28, ↓sB76_29, ↓sB76_30, ↓sB76_31, ↓sB76_32, ↓sB76_33, ↓sB76_34, ↓sB76_37, ↓sB76_38, ↓sB76_39, ↓sB76_40, ↓sB76_41, ↓sB76_42, h17]
theorem fX12_laysAllWords_eq {h : Zh} {t : Tk} {tr ra rc w : Nat} {ru : Nat → Nat} (tok : Tok t) (md : MD h t tr ra rc ru) (hw : w < 20) : ∃ h', fX12_laysAllWords 76 (iI w) h = some h' ∧ MFr h h' ∧ MD h' t tr ra rc ru ∧ ∀ x, x < tH t → zI h' 84 x = iI (layW t x w) := by
  obtain ⟨bn4, bn12, bu1, bu4, bnu, bk2, bk5, bkn, bp1, bp2, bpk, bH, bsp, bs1, bs4, bT1, bT16, bR1, bR2, bH1, bff, bff1⟩ := tok.b
  have sg := md.1.1
  have := lp_cnt (body := fun q : Int32 × Zh => bX12_laysAllWords_2 h 76 (iI w) q.1 q.2) (tH t) (fun x z => ∃ h1, z = ((iI (x : Int), h1) : Int32 × Zh) ∧ MFr h h1 ∧ MD h1 t tr ra rc ru ∧ ∀ y, y < x → zI h1 84 y = iI (layW t y w)) (fun e z => MFr h z.2 ∧ MD z.2 t tr ra rc ru ∧ ∀ y, y < tH t → zI z.2 84 y = iI (layW t y w)) ?_ ?_ (by omega) (s := (iI 0, h)) ⟨h, rfl, MFr.rf, md, fun y hy => by omega⟩
  · obtain ⟨e, z, l1, l2, l3, l4⟩ := this
    refine ⟨z.2, ?_, l2, l3, l4⟩
    unfold fX12_laysAllWords
    rw [zlet_eq]
    exact (lp_bd l1)
  · intro x z hx ⟨h1, ez, k1, k2, k3⟩
    subst ez
    obtain ⟨s1, htr, r3, qt, cd, cdm⟩ := k2.1
    obtain ⟨h2, p1, p2⟩ := fX12_laysWords_eq (words := w) s1 htr r3 qt cd tok hx hw
    have h17 := cd.1
    have fm : Fm [80, 81, 84] h1 (zsI h2 84 x (iI (layW t x w))) := (p2.mono (by simp)).tr (Fm_sI _ _ _ (by simp))
    refine Or.inl ⟨(iI ((x + 1 : Nat) : Int), zsI h2 84 x (iI (layW t x w))), ?_, _, rfl, k1.tr (MFr.of fm (by simp)), k2.fm fm (by simp), fun y hy => ?_⟩
    · show bX12_laysAllWords_2 h 76 (iI w) (iI x) h1 = _
      unfold bX12_laysAllWords_2
      simp (maxSteps := 1000000) (disch := (first | assumption | exact ne_b rfl | omega)) only [↓reduceIte, ↓zlet_eq, ↓bdR_sI, ↓bdR_sJ, ↓bdR_aI, zc2_some, Option.bind_some, ↓si_m1, ↓si_m2, ↓si_m3, iI_lit, iI_add, iI_sub, iI_mul, leT, leF, ltT, ltF, eqT, eqF, zinT, clI, Int.toNat_natCast, Int.reduceToNat, tN1, tNa, tN0, tNm, if_pos, if_neg, zI_sI, zI_sJ, zI_sR, zJ_sI, zJ_sJ, zJ_sR, zR_sI, zR_sJ, zR_sR, zK_sI, zK_sJ, zK_sR, zL_sI, zL_sJ, zL_sR, zI_aI, zJ_aI, zR_aI, zK_aI, zL_aI, z2_at, z2_a, z2_k, z1_self, z1_ne, true_and, and_true, bIt, bIf, Bool.false_eq_true, Bool.true_eq_false, eq_self, not_true_eq_false, not_false_eq_true, sK76, sK77, sK78, sK79, sK80, sK81, sK82, sK83, sK84, sK85, sK86, sK87, sK88, sK89, sK90, sK91, sK92, sK93, sK94, sK95, sK96, sK97, sK98, sK99, sK100, sL77, sL78, sL79, sL80, sL81, sL82, sL83, sL84, sL85, sL86, sL87, sL88, sL89, sL90, sL91, sL92, sL93, sL94, sL95, sL96, sL97, sL98, sL99, sL100, sR76_5, sR76_16, sR76_18, sR76_19, sR76_20, sR76_21, sR76_23, sR76_25, sR76_26, sR76_27, sR76_28, sR76_29, sR76_30, sR76_31, sR76_32, sR76_33, sR76_34, sR76_37, sR76_38, sR76_39, sR76_40, sR76_41, sR76_42, ↓sB76_5, ↓sB76_16, ↓sB76_18, ↓sB76_19, ↓sB76_20, ↓sB76_21, ↓sB76_23, ↓sB76_25, ↓sB76_26, ↓sB76_27, ↓sB76_28, ↓sB76_29, ↓sB76_30, ↓sB76_31, ↓sB76_32, ↓sB76_33, ↓sB76_34, ↓sB76_37, ↓sB76_38, ↓sB76_39, ↓sB76_40, ↓sB76_41, ↓sB76_42, h17, ↓zc_of p1]
      all_goals rfl
    · by_cases c : y = x
      · rw [c, zI_sI, z2_at]
      · rw [zI_sI, z2_k _ _ _ c, p2.I (by decide)]
        exact k3 y (by omega)
  · intro z ⟨h1, ez, k1, k2, k3⟩
    subst ez
    have h17 := k2.1.2.2.2.2.1.1
    refine ⟨0, (iI (tH t), h1), ?_, k1, k2, k3⟩
    show bX12_laysAllWords_2 h 76 (iI w) (iI (tH t)) h1 = _
    unfold bX12_laysAllWords_2
    simp (maxSteps := 1000000) (disch := (first | assumption | exact ne_b rfl | omega)) only [↓reduceIte, ↓zlet_eq, ↓bdR_sI, ↓bdR_sJ, ↓bdR_aI, zc2_some, Option.bind_some, ↓si_m1, ↓si_m2, ↓si_m3, iI_lit, iI_add, iI_sub, iI_mul, leT, leF, ltT, ltF, eqT, eqF, zinT, clI, Int.toNat_natCast, Int.reduceToNat, tN1, tNa, tN0, tNm, if_pos, if_neg, zI_sI, zI_sJ, zI_sR, zJ_sI, zJ_sJ, zJ_sR, zR_sI, zR_sJ, zR_sR, zK_sI, zK_sJ, zK_sR, zL_sI, zL_sJ, zL_sR, zI_aI, zJ_aI, zR_aI, zK_aI, zL_aI, z2_at, z2_a, z2_k, z1_self, z1_ne, true_and, and_true, bIt, bIf, Bool.false_eq_true, Bool.true_eq_false, eq_self, not_true_eq_false, not_false_eq_true, sK76, sK77, sK78, sK79, sK80, sK81, sK82, sK83, sK84, sK85, sK86, sK87, sK88, sK89, sK90, sK91, sK92, sK93, sK94, sK95, sK96, sK97, sK98, sK99, sK100, sL77, sL78, sL79, sL80, sL81, sL82, sL83, sL84, sL85, sL86, sL87, sL88, sL89, sL90, sL91, sL92, sL93, sL94, sL95, sL96, sL97, sL98, sL99, sL100, sR76_5, sR76_16, sR76_18, sR76_19, sR76_20, sR76_21, sR76_23, sR76_25, sR76_26, sR76_27, sR76_28, sR76_29, sR76_30, sR76_31, sR76_32, sR76_33, sR76_34, sR76_37, sR76_38, sR76_39, sR76_40, sR76_41, sR76_42, ↓sB76_5, ↓sB76_16, ↓sB76_18, ↓sB76_19, ↓sB76_20, ↓sB76_21, ↓sB76_23, ↓sB76_25, ↓sB76_26, ↓sB76_27, ↓sB76_28, ↓sB76_29, ↓sB76_30, ↓sB76_31, ↓sB76_32, ↓sB76_33, ↓sB76_34, ↓sB76_37, ↓sB76_38, ↓sB76_39, ↓sB76_40, ↓sB76_41, ↓sB76_42, h17]
theorem fX12_firstWith_eq {h : Zh} {H : Nat} {r : Int} {ρ : Nat → Int} (s : St h) (h17 : zI h 76 17 = iI H) (hH : H ≤ 2000) (hr : -2147483648 ≤ r ∧ r < 2147483648) (hb : ∀ x, x < H → -2147483648 ≤ ρ x ∧ ρ x < 2147483648) (hρ : ∀ x, x < H → zI h 84 x = iI (ρ x)) : fX12_firstWith 76 (iI r) h = some (iI (frw ρ H r), h) := by
  have hl := lp_sb (k := fun q : Nat × Int32 × Zh => kX12_firstWith_2 h q.1 q.2.1 q.2.2) (body := fun q : Int32 × Zh => bX12_firstWith_2 h 76 (iI r) q.1 q.2) (st := fun x => ((iI (x : Int), h) : Int32 × Zh)) (fun x => decide (ρ x = r)) 0 1 (fun x => ((iI (x : Int), h) : Int32 × Zh)) ((iI H, h) : Int32 × Zh) H rfl (by omega) ?_ ?_ ?_
  · unfold fX12_firstWith
    rw [zlet_eq]
    refine hl.trans ?_
    unfold frw fwi
    split
    · rfl
    · rfl
  · intro x hx hP
    have hne : ¬ ρ x = r := of_decide_eq_false hP
    have e1 := hρ x hx
    have hbx := hb x hx
    show bX12_firstWith_2 h 76 (iI r) (iI x) h = _
    unfold bX12_firstWith_2
    simp (maxSteps := 1000000) (disch := (first | assumption | exact ne_b rfl | omega)) only [↓reduceIte, ↓zlet_eq, ↓bdR_sI, ↓bdR_sJ, ↓bdR_aI, zc2_some, Option.bind_some, ↓si_m1, ↓si_m2, ↓si_m3, iI_lit, iI_add, iI_sub, iI_mul, leT, leF, ltT, ltF, eqT, eqF, zinT, clI, Int.toNat_natCast, Int.reduceToNat, tN1, tNa, tN0, tNm, if_pos, if_neg, zI_sI, zI_sJ, zI_sR, zJ_sI, zJ_sJ, zJ_sR, zR_sI, zR_sJ, zR_sR, zK_sI, zK_sJ, zK_sR, zL_sI, zL_sJ, zL_sR, zI_aI, zJ_aI, zR_aI, zK_aI, zL_aI, z2_at, z2_a, z2_k, z1_self, z1_ne, true_and, and_true, bIt, bIf, Bool.false_eq_true, Bool.true_eq_false, eq_self, not_true_eq_false, not_false_eq_true, sK76, sK77, sK78, sK79, sK80, sK81, sK82, sK83, sK84, sK85, sK86, sK87, sK88, sK89, sK90, sK91, sK92, sK93, sK94, sK95, sK96, sK97, sK98, sK99, sK100, sL77, sL78, sL79, sL80, sL81, sL82, sL83, sL84, sL85, sL86, sL87, sL88, sL89, sL90, sL91, sL92, sL93, sL94, sL95, sL96, sL97, sL98, sL99, sL100, sR76_5, sR76_16, sR76_18, sR76_19, sR76_20, sR76_21, sR76_23, sR76_25, sR76_26, sR76_27, sR76_28, sR76_29, sR76_30, sR76_31, sR76_32, sR76_33, sR76_34, sR76_37, sR76_38, sR76_39, sR76_40, sR76_41, sR76_42, ↓sB76_5, ↓sB76_16, ↓sB76_18, ↓sB76_19, ↓sB76_20, ↓sB76_21, ↓sB76_23, ↓sB76_25, ↓sB76_26, ↓sB76_27, ↓sB76_28, ↓sB76_29, ↓sB76_30, ↓sB76_31, ↓sB76_32, ↓sB76_33, ↓sB76_34, ↓sB76_37, ↓sB76_38, ↓sB76_39, ↓sB76_40, ↓sB76_41, ↓sB76_42, h17, e1]
    all_goals rfl
  · intro x hx hP
    have heq : ρ x = r := of_decide_eq_true hP
    have e1 := hρ x hx
    show bX12_firstWith_2 h 76 (iI r) (iI x) h = _
    unfold bX12_firstWith_2
    simp (maxSteps := 1000000) (disch := (first | assumption | exact ne_b rfl | omega)) only [↓reduceIte, ↓zlet_eq, ↓bdR_sI, ↓bdR_sJ, ↓bdR_aI, zc2_some, Option.bind_some, ↓si_m1, ↓si_m2, ↓si_m3, iI_lit, iI_add, iI_sub, iI_mul, leT, leF, ltT, ltF, eqT, eqF, zinT, clI, Int.toNat_natCast, Int.reduceToNat, tN1, tNa, tN0, tNm, if_pos, if_neg, zI_sI, zI_sJ, zI_sR, zJ_sI, zJ_sJ, zJ_sR, zR_sI, zR_sJ, zR_sR, zK_sI, zK_sJ, zK_sR, zL_sI, zL_sJ, zL_sR, zI_aI, zJ_aI, zR_aI, zK_aI, zL_aI, z2_at, z2_a, z2_k, z1_self, z1_ne, true_and, and_true, bIt, bIf, Bool.false_eq_true, Bool.true_eq_false, eq_self, not_true_eq_false, not_false_eq_true, sK76, sK77, sK78, sK79, sK80, sK81, sK82, sK83, sK84, sK85, sK86, sK87, sK88, sK89, sK90, sK91, sK92, sK93, sK94, sK95, sK96, sK97, sK98, sK99, sK100, sL77, sL78, sL79, sL80, sL81, sL82, sL83, sL84, sL85, sL86, sL87, sL88, sL89, sL90, sL91, sL92, sL93, sL94, sL95, sL96, sL97, sL98, sL99, sL100, sR76_5, sR76_16, sR76_18, sR76_19, sR76_20, sR76_21, sR76_23, sR76_25, sR76_26, sR76_27, sR76_28, sR76_29, sR76_30, sR76_31, sR76_32, sR76_33, sR76_34, sR76_37, sR76_38, sR76_39, sR76_40, sR76_41, sR76_42, ↓sB76_5, ↓sB76_16, ↓sB76_18, ↓sB76_19, ↓sB76_20, ↓sB76_21, ↓sB76_23, ↓sB76_25, ↓sB76_26, ↓sB76_27, ↓sB76_28, ↓sB76_29, ↓sB76_30, ↓sB76_31, ↓sB76_32, ↓sB76_33, ↓sB76_34, ↓sB76_37, ↓sB76_38, ↓sB76_39, ↓sB76_40, ↓sB76_41, ↓sB76_42, h17, e1]
  · show bX12_firstWith_2 h 76 (iI r) (iI H) h = _
    unfold bX12_firstWith_2
    simp (maxSteps := 1000000) (disch := (first | assumption | exact ne_b rfl | omega)) only [↓reduceIte, ↓zlet_eq, ↓bdR_sI, ↓bdR_sJ, ↓bdR_aI, zc2_some, Option.bind_some, ↓si_m1, ↓si_m2, ↓si_m3, iI_lit, iI_add, iI_sub, iI_mul, leT, leF, ltT, ltF, eqT, eqF, zinT, clI, Int.toNat_natCast, Int.reduceToNat, tN1, tNa, tN0, tNm, if_pos, if_neg, zI_sI, zI_sJ, zI_sR, zJ_sI, zJ_sJ, zJ_sR, zR_sI, zR_sJ, zR_sR, zK_sI, zK_sJ, zK_sR, zL_sI, zL_sJ, zL_sR, zI_aI, zJ_aI, zR_aI, zK_aI, zL_aI, z2_at, z2_a, z2_k, z1_self, z1_ne, true_and, and_true, bIt, bIf, Bool.false_eq_true, Bool.true_eq_false, eq_self, not_true_eq_false, not_false_eq_true, sK76, sK77, sK78, sK79, sK80, sK81, sK82, sK83, sK84, sK85, sK86, sK87, sK88, sK89, sK90, sK91, sK92, sK93, sK94, sK95, sK96, sK97, sK98, sK99, sK100, sL77, sL78, sL79, sL80, sL81, sL82, sL83, sL84, sL85, sL86, sL87, sL88, sL89, sL90, sL91, sL92, sL93, sL94, sL95, sL96, sL97, sL98, sL99, sL100, sR76_5, sR76_16, sR76_18, sR76_19, sR76_20, sR76_21, sR76_23, sR76_25, sR76_26, sR76_27, sR76_28, sR76_29, sR76_30, sR76_31, sR76_32, sR76_33, sR76_34, sR76_37, sR76_38, sR76_39, sR76_40, sR76_41, sR76_42, ↓sB76_5, ↓sB76_16, ↓sB76_18, ↓sB76_19, ↓sB76_20, ↓sB76_21, ↓sB76_23, ↓sB76_25, ↓sB76_26, ↓sB76_27, ↓sB76_28, ↓sB76_29, ↓sB76_30, ↓sB76_31, ↓sB76_32, ↓sB76_33, ↓sB76_34, ↓sB76_37, ↓sB76_38, ↓sB76_39, ↓sB76_40, ↓sB76_41, ↓sB76_42, h17]
/-- the first hand with its row -/
theorem frw_self {ρ : Nat → Int} {H x : Nat} (hx : x < H) : frw ρ H (ρ x) = (fwi ρ H (ρ x) : Nat) ∧ fwi ρ H (ρ x) ≤ x ∧ (fwi ρ H (ρ x) < x ↔ fwi ρ x (ρ x) < x) ∧ (fwi ρ x (ρ x) < x → fwi ρ H (ρ x) = fwi ρ x (ρ x)) := by
  have h1 : fwi ρ H (ρ x) ≤ x := by
    refine Classical.byContradiction (fun c => ?_)
    have := zfst_before (P := fun j => decide (ρ j = ρ x)) (n := H) (i := x) (by unfold fwi at c; omega)
    rw [decide_eq_true rfl] at this
    cases this
  have h2 : fwi ρ x (ρ x) < x → fwi ρ H (ρ x) = fwi ρ x (ρ x) := fun c => by
    unfold fwi at c ⊢
    exact zfst_eq (by omega) (fun i hi => zfst_before hi) (fun _ => zfst_at c)
  refine ⟨by unfold frw; rw [if_pos (by omega)], h1, ⟨fun c => ?_, fun c => by rw [h2 c]; exact c⟩, h2⟩
  refine Classical.byContradiction (fun c2 => ?_)
  have h3 : fwi ρ H (ρ x) < H := by omega
  have h4 := zfst_at (P := fun j => decide (ρ j = ρ x)) (n := H) h3
  have hle := zfst_le (fun j => decide (ρ j = ρ x)) x
  have := zfst_before (P := fun j => decide (ρ j = ρ x)) (n := x) (i := fwi ρ H (ρ x)) (by unfold fwi at c c2 ⊢; omega)
  unfold fwi at this
  rw [h4] at this
  cases this
theorem fX12_clashNow_eq {h : Zh} {H : Nat} {ρ : Nat → Int} (s : St h) (h17 : zI h 76 17 = iI H) (hH : H ≤ 2000) (hb : ∀ x, x < H → ρ x = -2 ∨ (0 ≤ ρ x ∧ ρ x < 2147483648)) (hρ : ∀ x, x < H → zI h 84 x = iI (ρ x)) : fX12_clashNow 76 h = some (iI (chd ρ H), h) := by
  have hb' : ∀ x, x < H → -2147483648 ≤ ρ x ∧ ρ x < 2147483648 := fun x hx => by have := hb x hx; omega
  have hl := lp_sb (k := fun q : Nat × Int32 × Zh => kX12_clashNow_2 h q.1 q.2.1 q.2.2) (body := fun q : Int32 × Zh => bX12_clashNow_2 h 76 q.1 q.2) (st := fun x => ((iI (x : Int), h) : Int32 × Zh)) (dup ρ) 0 1 (fun x => ((iI (x : Int), h) : Int32 × Zh)) ((iI H, h) : Int32 × Zh) H rfl (by omega) ?_ ?_ ?_
  · unfold fX12_clashNow
    rw [zlet_eq]
    refine hl.trans ?_
    unfold chd
    split
    · rfl
    · rfl
  · intro x hx hP
    have e1 := hρ x hx
    show bX12_clashNow_2 h 76 (iI x) h = _
    unfold bX12_clashNow_2
    rcases hb x hx with c | c
    · rw [c] at e1
      simp (maxSteps := 1000000) (disch := (first | assumption | exact ne_b rfl | omega)) only [↓reduceIte, ↓zlet_eq, ↓bdR_sI, ↓bdR_sJ, ↓bdR_aI, zc2_some, Option.bind_some, ↓si_m1, ↓si_m2, ↓si_m3, iI_lit, iI_add, iI_sub, iI_mul, leT, leF, ltT, ltF, eqT, eqF, zinT, clI, Int.toNat_natCast, Int.reduceToNat, tN1, tNa, tN0, tNm, if_pos, if_neg, zI_sI, zI_sJ, zI_sR, zJ_sI, zJ_sJ, zJ_sR, zR_sI, zR_sJ, zR_sR, zK_sI, zK_sJ, zK_sR, zL_sI, zL_sJ, zL_sR, zI_aI, zJ_aI, zR_aI, zK_aI, zL_aI, z2_at, z2_a, z2_k, z1_self, z1_ne, true_and, and_true, bIt, bIf, Bool.false_eq_true, Bool.true_eq_false, eq_self, not_true_eq_false, not_false_eq_true, sK76, sK77, sK78, sK79, sK80, sK81, sK82, sK83, sK84, sK85, sK86, sK87, sK88, sK89, sK90, sK91, sK92, sK93, sK94, sK95, sK96, sK97, sK98, sK99, sK100, sL77, sL78, sL79, sL80, sL81, sL82, sL83, sL84, sL85, sL86, sL87, sL88, sL89, sL90, sL91, sL92, sL93, sL94, sL95, sL96, sL97, sL98, sL99, sL100, sR76_5, sR76_16, sR76_18, sR76_19, sR76_20, sR76_21, sR76_23, sR76_25, sR76_26, sR76_27, sR76_28, sR76_29, sR76_30, sR76_31, sR76_32, sR76_33, sR76_34, sR76_37, sR76_38, sR76_39, sR76_40, sR76_41, sR76_42, ↓sB76_5, ↓sB76_16, ↓sB76_18, ↓sB76_19, ↓sB76_20, ↓sB76_21, ↓sB76_23, ↓sB76_25, ↓sB76_26, ↓sB76_27, ↓sB76_28, ↓sB76_29, ↓sB76_30, ↓sB76_31, ↓sB76_32, ↓sB76_33, ↓sB76_34, ↓sB76_37, ↓sB76_38, ↓sB76_39, ↓sB76_40, ↓sB76_41, ↓sB76_42, h17, e1]
      all_goals rfl
    · have hne : ¬ ρ x = -2 := by omega
      have e2 := fX12_firstWith_eq s h17 hH (hb' x hx) hb' hρ
      obtain ⟨f1, f2, f3, f4⟩ := frw_self (ρ := ρ) hx
      rw [f1] at e2
      have hnd : ¬ fwi ρ x (ρ x) < x := fun q => by
        unfold dup at hP
        rw [decide_eq_true c.1, Bool.true_and] at hP
        exact of_decide_eq_false hP q
      have hge : ¬ fwi ρ H (ρ x) < x := fun q => hnd (f3.mp q)
      generalize fwi ρ H (ρ x) = v at *
      simp (maxSteps := 1000000) (disch := (first | assumption | exact ne_b rfl | omega)) only [↓reduceIte, ↓zlet_eq, ↓bdR_sI, ↓bdR_sJ, ↓bdR_aI, zc2_some, Option.bind_some, ↓si_m1, ↓si_m2, ↓si_m3, iI_lit, iI_add, iI_sub, iI_mul, leT, leF, ltT, ltF, eqT, eqF, zinT, clI, Int.toNat_natCast, Int.reduceToNat, tN1, tNa, tN0, tNm, if_pos, if_neg, zI_sI, zI_sJ, zI_sR, zJ_sI, zJ_sJ, zJ_sR, zR_sI, zR_sJ, zR_sR, zK_sI, zK_sJ, zK_sR, zL_sI, zL_sJ, zL_sR, zI_aI, zJ_aI, zR_aI, zK_aI, zL_aI, z2_at, z2_a, z2_k, z1_self, z1_ne, true_and, and_true, bIt, bIf, Bool.false_eq_true, Bool.true_eq_false, eq_self, not_true_eq_false, not_false_eq_true, sK76, sK77, sK78, sK79, sK80, sK81, sK82, sK83, sK84, sK85, sK86, sK87, sK88, sK89, sK90, sK91, sK92, sK93, sK94, sK95, sK96, sK97, sK98, sK99, sK100, sL77, sL78, sL79, sL80, sL81, sL82, sL83, sL84, sL85, sL86, sL87, sL88, sL89, sL90, sL91, sL92, sL93, sL94, sL95, sL96, sL97, sL98, sL99, sL100, sR76_5, sR76_16, sR76_18, sR76_19, sR76_20, sR76_21, sR76_23, sR76_25, sR76_26, sR76_27, sR76_28, sR76_29, sR76_30, sR76_31, sR76_32, sR76_33, sR76_34, sR76_37, sR76_38, sR76_39, sR76_40, sR76_41, sR76_42, ↓sB76_5, ↓sB76_16, ↓sB76_18, ↓sB76_19, ↓sB76_20, ↓sB76_21, ↓sB76_23, ↓sB76_25, ↓sB76_26, ↓sB76_27, ↓sB76_28, ↓sB76_29, ↓sB76_30, ↓sB76_31, ↓sB76_32, ↓sB76_33, ↓sB76_34, ↓sB76_37, ↓sB76_38, ↓sB76_39, ↓sB76_40, ↓sB76_41, ↓sB76_42, h17, e1, ↓zc_of e2]
      all_goals rfl
  · intro x hx hP
    have e1 := hρ x hx
    have hP0 := hP
    unfold dup at hP
    rw [Bool.and_eq_true_iff] at hP
    have c1 := of_decide_eq_true hP.1
    have c2 : fwi ρ x (ρ x) < x := of_decide_eq_true hP.2
    have hne : ¬ ρ x = -2 := by omega
    have hbx := hb' x hx
    have e2 := fX12_firstWith_eq s h17 hH (hb' x hx) hb' hρ
    obtain ⟨f1, f2, f3, f4⟩ := frw_self (ρ := ρ) hx
    rw [f1] at e2
    have hlt := f3.mpr c2
    generalize fwi ρ H (ρ x) = v at *
    show bX12_clashNow_2 h 76 (iI x) h = _
    unfold bX12_clashNow_2
    simp (maxSteps := 1000000) (disch := (first | assumption | exact ne_b rfl | omega)) only [↓reduceIte, ↓zlet_eq, ↓bdR_sI, ↓bdR_sJ, ↓bdR_aI, zc2_some, Option.bind_some, ↓si_m1, ↓si_m2, ↓si_m3, iI_lit, iI_add, iI_sub, iI_mul, leT, leF, ltT, ltF, eqT, eqF, zinT, clI, Int.toNat_natCast, Int.reduceToNat, tN1, tNa, tN0, tNm, if_pos, if_neg, zI_sI, zI_sJ, zI_sR, zJ_sI, zJ_sJ, zJ_sR, zR_sI, zR_sJ, zR_sR, zK_sI, zK_sJ, zK_sR, zL_sI, zL_sJ, zL_sR, zI_aI, zJ_aI, zR_aI, zK_aI, zL_aI, z2_at, z2_a, z2_k, z1_self, z1_ne, true_and, and_true, bIt, bIf, Bool.false_eq_true, Bool.true_eq_false, eq_self, not_true_eq_false, not_false_eq_true, sK76, sK77, sK78, sK79, sK80, sK81, sK82, sK83, sK84, sK85, sK86, sK87, sK88, sK89, sK90, sK91, sK92, sK93, sK94, sK95, sK96, sK97, sK98, sK99, sK100, sL77, sL78, sL79, sL80, sL81, sL82, sL83, sL84, sL85, sL86, sL87, sL88, sL89, sL90, sL91, sL92, sL93, sL94, sL95, sL96, sL97, sL98, sL99, sL100, sR76_5, sR76_16, sR76_18, sR76_19, sR76_20, sR76_21, sR76_23, sR76_25, sR76_26, sR76_27, sR76_28, sR76_29, sR76_30, sR76_31, sR76_32, sR76_33, sR76_34, sR76_37, sR76_38, sR76_39, sR76_40, sR76_41, sR76_42, ↓sB76_5, ↓sB76_16, ↓sB76_18, ↓sB76_19, ↓sB76_20, ↓sB76_21, ↓sB76_23, ↓sB76_25, ↓sB76_26, ↓sB76_27, ↓sB76_28, ↓sB76_29, ↓sB76_30, ↓sB76_31, ↓sB76_32, ↓sB76_33, ↓sB76_34, ↓sB76_37, ↓sB76_38, ↓sB76_39, ↓sB76_40, ↓sB76_41, ↓sB76_42, h17, e1, ↓zc_of e2]
  · show bX12_clashNow_2 h 76 (iI H) h = _
    unfold bX12_clashNow_2
    simp (maxSteps := 1000000) (disch := (first | assumption | exact ne_b rfl | omega)) only [↓reduceIte, ↓zlet_eq, ↓bdR_sI, ↓bdR_sJ, ↓bdR_aI, zc2_some, Option.bind_some, ↓si_m1, ↓si_m2, ↓si_m3, iI_lit, iI_add, iI_sub, iI_mul, leT, leF, ltT, ltF, eqT, eqF, zinT, clI, Int.toNat_natCast, Int.reduceToNat, tN1, tNa, tN0, tNm, if_pos, if_neg, zI_sI, zI_sJ, zI_sR, zJ_sI, zJ_sJ, zJ_sR, zR_sI, zR_sJ, zR_sR, zK_sI, zK_sJ, zK_sR, zL_sI, zL_sJ, zL_sR, zI_aI, zJ_aI, zR_aI, zK_aI, zL_aI, z2_at, z2_a, z2_k, z1_self, z1_ne, true_and, and_true, bIt, bIf, Bool.false_eq_true, Bool.true_eq_false, eq_self, not_true_eq_false, not_false_eq_true, sK76, sK77, sK78, sK79, sK80, sK81, sK82, sK83, sK84, sK85, sK86, sK87, sK88, sK89, sK90, sK91, sK92, sK93, sK94, sK95, sK96, sK97, sK98, sK99, sK100, sL77, sL78, sL79, sL80, sL81, sL82, sL83, sL84, sL85, sL86, sL87, sL88, sL89, sL90, sL91, sL92, sL93, sL94, sL95, sL96, sL97, sL98, sL99, sL100, sR76_5, sR76_16, sR76_18, sR76_19, sR76_20, sR76_21, sR76_23, sR76_25, sR76_26, sR76_27, sR76_28, sR76_29, sR76_30, sR76_31, sR76_32, sR76_33, sR76_34, sR76_37, sR76_38, sR76_39, sR76_40, sR76_41, sR76_42, ↓sB76_5, ↓sB76_16, ↓sB76_18, ↓sB76_19, ↓sB76_20, ↓sB76_21, ↓sB76_23, ↓sB76_25, ↓sB76_26, ↓sB76_27, ↓sB76_28, ↓sB76_29, ↓sB76_30, ↓sB76_31, ↓sB76_32, ↓sB76_33, ↓sB76_34, ↓sB76_37, ↓sB76_38, ↓sB76_39, ↓sB76_40, ↓sB76_41, ↓sB76_42, h17]
theorem fX12_isWorking_eq {h : Zh} {H : Nat} {ρ : Nat → Int} (s : St h) (h17 : zI h 76 17 = iI H) (hH : H ≤ 2000) (hb : ∀ x, x < H → ρ x = -2 ∨ (0 ≤ ρ x ∧ ρ x < 2147483648)) (hρ : ∀ x, x < H → zI h 84 x = iI (ρ x)) : fX12_isWorking 76 h = some (iI (bI (decide (fcl ρ H = 0 ∧ chd ρ H = -2))), h) := by
  have hcl := fX12_clashNow_eq s h17 hH hb hρ
  have hcb := chd_b ρ H
  have hl := lp_sb (k := fun q : Nat × Int32 × Zh => kX12_isWorking_2 h 76 q.1 q.2.1 q.2.2) (body := fun q : Int32 × Zh => bX12_isWorking_2 h 76 q.1 q.2) (st := fun x => ((iI (x : Int), h) : Int32 × Zh)) (fun x => decide (ρ x < 0)) 0 1 (fun x => ((iI (x : Int), h) : Int32 × Zh)) ((iI H, h) : Int32 × Zh) H rfl (by omega) ?_ ?_ ?_
  · unfold fX12_isWorking
    rw [zlet_eq]
    refine hl.trans ?_
    have f0 : (∀ y, y < H → ¬ ρ y < 0) → fcl ρ H = 0 := by
      intro q
      have : ∀ a, a ≤ H → fcl ρ a = 0 := by
        intro a
        induction a with
        | zero => intro _; rfl
        | succ a ih => intro ha; rw [fcl, ih (by omega), if_neg (q a (by omega))]
      exact this H (Nat.le_refl _)
    by_cases c : zfst (fun x => decide (ρ x < 0)) H < H
    · rw [if_pos c]
      have h1 : ρ (zfst (fun x => decide (ρ x < 0)) H) < 0 := of_decide_eq_true (zfst_at (P := fun x => decide (ρ x < 0)) c)
      have h2 : fcl ρ H ≠ 0 := fun q => by
        have mono : ∀ a b, fcl ρ a ≤ fcl ρ (a + b) := fun a b => by
          induction b with
          | zero => exact Nat.le_refl _
          | succ b ih => show _ ≤ fcl ρ (a + b + 1); rw [fcl]; omega
        generalize zfst (fun x => decide (ρ x < 0)) H = v at *
        have h4 := mono (v + 1) (H - (v + 1))
        rw [show v + 1 + (H - (v + 1)) = H by omega, fcl, if_pos h1] at h4
        omega
      rw [decide_eq_false (fun q => h2 q.1)]
      rfl
    · rw [if_neg c]
      have h2 := f0 (fun y hy q => by
        have := zfst_le (fun x => decide (ρ x < 0)) H
        have h3 := zfst_before (P := fun x => decide (ρ x < 0)) (n := H) (i := y) (by omega)
        exact of_decide_eq_false h3 q)
      show kX12_isWorking_2 h 76 2 (iI H) h = _
      unfold kX12_isWorking_2
      by_cases c2 : chd ρ H = -2
      · rw [decide_eq_true ⟨h2, c2⟩]
        rw [c2] at hcl
        simp (maxSteps := 1000000) (disch := (first | assumption | exact ne_b rfl | omega)) only [↓reduceIte, ↓zlet_eq, ↓bdR_sI, ↓bdR_sJ, ↓bdR_aI, zc2_some, Option.bind_some, ↓si_m1, ↓si_m2, ↓si_m3, iI_lit, iI_add, iI_sub, iI_mul, leT, leF, ltT, ltF, eqT, eqF, zinT, clI, Int.toNat_natCast, Int.reduceToNat, tN1, tNa, tN0, tNm, if_pos, if_neg, zI_sI, zI_sJ, zI_sR, zJ_sI, zJ_sJ, zJ_sR, zR_sI, zR_sJ, zR_sR, zK_sI, zK_sJ, zK_sR, zL_sI, zL_sJ, zL_sR, zI_aI, zJ_aI, zR_aI, zK_aI, zL_aI, z2_at, z2_a, z2_k, z1_self, z1_ne, true_and, and_true, bIt, bIf, Bool.false_eq_true, Bool.true_eq_false, eq_self, not_true_eq_false, not_false_eq_true, sK76, sK77, sK78, sK79, sK80, sK81, sK82, sK83, sK84, sK85, sK86, sK87, sK88, sK89, sK90, sK91, sK92, sK93, sK94, sK95, sK96, sK97, sK98, sK99, sK100, sL77, sL78, sL79, sL80, sL81, sL82, sL83, sL84, sL85, sL86, sL87, sL88, sL89, sL90, sL91, sL92, sL93, sL94, sL95, sL96, sL97, sL98, sL99, sL100, sR76_5, sR76_16, sR76_18, sR76_19, sR76_20, sR76_21, sR76_23, sR76_25, sR76_26, sR76_27, sR76_28, sR76_29, sR76_30, sR76_31, sR76_32, sR76_33, sR76_34, sR76_37, sR76_38, sR76_39, sR76_40, sR76_41, sR76_42, ↓sB76_5, ↓sB76_16, ↓sB76_18, ↓sB76_19, ↓sB76_20, ↓sB76_21, ↓sB76_23, ↓sB76_25, ↓sB76_26, ↓sB76_27, ↓sB76_28, ↓sB76_29, ↓sB76_30, ↓sB76_31, ↓sB76_32, ↓sB76_33, ↓sB76_34, ↓sB76_37, ↓sB76_38, ↓sB76_39, ↓sB76_40, ↓sB76_41, ↓sB76_42, ↓zc_of hcl]
        all_goals rfl
      · rw [decide_eq_false (fun q => c2 q.2)]
        generalize chd ρ H = v at *
        simp (maxSteps := 1000000) (disch := (first | assumption | exact ne_b rfl | omega)) only [↓reduceIte, ↓zlet_eq, ↓bdR_sI, ↓bdR_sJ, ↓bdR_aI, zc2_some, Option.bind_some, ↓si_m1, ↓si_m2, ↓si_m3, iI_lit, iI_add, iI_sub, iI_mul, leT, leF, ltT, ltF, eqT, eqF, zinT, clI, Int.toNat_natCast, Int.reduceToNat, tN1, tNa, tN0, tNm, if_pos, if_neg, zI_sI, zI_sJ, zI_sR, zJ_sI, zJ_sJ, zJ_sR, zR_sI, zR_sJ, zR_sR, zK_sI, zK_sJ, zK_sR, zL_sI, zL_sJ, zL_sR, zI_aI, zJ_aI, zR_aI, zK_aI, zL_aI, z2_at, z2_a, z2_k, z1_self, z1_ne, true_and, and_true, bIt, bIf, Bool.false_eq_true, Bool.true_eq_false, eq_self, not_true_eq_false, not_false_eq_true, sK76, sK77, sK78, sK79, sK80, sK81, sK82, sK83, sK84, sK85, sK86, sK87, sK88, sK89, sK90, sK91, sK92, sK93, sK94, sK95, sK96, sK97, sK98, sK99, sK100, sL77, sL78, sL79, sL80, sL81, sL82, sL83, sL84, sL85, sL86, sL87, sL88, sL89, sL90, sL91, sL92, sL93, sL94, sL95, sL96, sL97, sL98, sL99, sL100, sR76_5, sR76_16, sR76_18, sR76_19, sR76_20, sR76_21, sR76_23, sR76_25, sR76_26, sR76_27, sR76_28, sR76_29, sR76_30, sR76_31, sR76_32, sR76_33, sR76_34, sR76_37, sR76_38, sR76_39, sR76_40, sR76_41, sR76_42, ↓sB76_5, ↓sB76_16, ↓sB76_18, ↓sB76_19, ↓sB76_20, ↓sB76_21, ↓sB76_23, ↓sB76_25, ↓sB76_26, ↓sB76_27, ↓sB76_28, ↓sB76_29, ↓sB76_30, ↓sB76_31, ↓sB76_32, ↓sB76_33, ↓sB76_34, ↓sB76_37, ↓sB76_38, ↓sB76_39, ↓sB76_40, ↓sB76_41, ↓sB76_42, ↓zc_of hcl]
        all_goals rfl
  · intro x hx hP
    have e1 := hρ x hx
    have hnn : ¬ ρ x < 0 := of_decide_eq_false hP
    have hbx := hb x hx
    have hne : ¬ ρ x = -2 := by omega
    show bX12_isWorking_2 h 76 (iI x) h = _
    unfold bX12_isWorking_2
    simp (maxSteps := 1000000) (disch := (first | assumption | exact ne_b rfl | omega)) only [↓reduceIte, ↓zlet_eq, ↓bdR_sI, ↓bdR_sJ, ↓bdR_aI, zc2_some, Option.bind_some, ↓si_m1, ↓si_m2, ↓si_m3, iI_lit, iI_add, iI_sub, iI_mul, leT, leF, ltT, ltF, eqT, eqF, zinT, clI, Int.toNat_natCast, Int.reduceToNat, tN1, tNa, tN0, tNm, if_pos, if_neg, zI_sI, zI_sJ, zI_sR, zJ_sI, zJ_sJ, zJ_sR, zR_sI, zR_sJ, zR_sR, zK_sI, zK_sJ, zK_sR, zL_sI, zL_sJ, zL_sR, zI_aI, zJ_aI, zR_aI, zK_aI, zL_aI, z2_at, z2_a, z2_k, z1_self, z1_ne, true_and, and_true, bIt, bIf, Bool.false_eq_true, Bool.true_eq_false, eq_self, not_true_eq_false, not_false_eq_true, sK76, sK77, sK78, sK79, sK80, sK81, sK82, sK83, sK84, sK85, sK86, sK87, sK88, sK89, sK90, sK91, sK92, sK93, sK94, sK95, sK96, sK97, sK98, sK99, sK100, sL77, sL78, sL79, sL80, sL81, sL82, sL83, sL84, sL85, sL86, sL87, sL88, sL89, sL90, sL91, sL92, sL93, sL94, sL95, sL96, sL97, sL98, sL99, sL100, sR76_5, sR76_16, sR76_18, sR76_19, sR76_20, sR76_21, sR76_23, sR76_25, sR76_26, sR76_27, sR76_28, sR76_29, sR76_30, sR76_31, sR76_32, sR76_33, sR76_34, sR76_37, sR76_38, sR76_39, sR76_40, sR76_41, sR76_42, ↓sB76_5, ↓sB76_16, ↓sB76_18, ↓sB76_19, ↓sB76_20, ↓sB76_21, ↓sB76_23, ↓sB76_25, ↓sB76_26, ↓sB76_27, ↓sB76_28, ↓sB76_29, ↓sB76_30, ↓sB76_31, ↓sB76_32, ↓sB76_33, ↓sB76_34, ↓sB76_37, ↓sB76_38, ↓sB76_39, ↓sB76_40, ↓sB76_41, ↓sB76_42, h17, e1]
    all_goals rfl
  · intro x hx hP
    have e1 := hρ x hx
    have hnn : ρ x < 0 := of_decide_eq_true hP
    have heq : ρ x = -2 := by have := hb x hx; omega
    show bX12_isWorking_2 h 76 (iI x) h = _
    unfold bX12_isWorking_2
    simp (maxSteps := 1000000) (disch := (first | assumption | exact ne_b rfl | omega)) only [↓reduceIte, ↓zlet_eq, ↓bdR_sI, ↓bdR_sJ, ↓bdR_aI, zc2_some, Option.bind_some, ↓si_m1, ↓si_m2, ↓si_m3, iI_lit, iI_add, iI_sub, iI_mul, leT, leF, ltT, ltF, eqT, eqF, zinT, clI, Int.toNat_natCast, Int.reduceToNat, tN1, tNa, tN0, tNm, if_pos, if_neg, zI_sI, zI_sJ, zI_sR, zJ_sI, zJ_sJ, zJ_sR, zR_sI, zR_sJ, zR_sR, zK_sI, zK_sJ, zK_sR, zL_sI, zL_sJ, zL_sR, zI_aI, zJ_aI, zR_aI, zK_aI, zL_aI, z2_at, z2_a, z2_k, z1_self, z1_ne, true_and, and_true, bIt, bIf, Bool.false_eq_true, Bool.true_eq_false, eq_self, not_true_eq_false, not_false_eq_true, sK76, sK77, sK78, sK79, sK80, sK81, sK82, sK83, sK84, sK85, sK86, sK87, sK88, sK89, sK90, sK91, sK92, sK93, sK94, sK95, sK96, sK97, sK98, sK99, sK100, sL77, sL78, sL79, sL80, sL81, sL82, sL83, sL84, sL85, sL86, sL87, sL88, sL89, sL90, sL91, sL92, sL93, sL94, sL95, sL96, sL97, sL98, sL99, sL100, sR76_5, sR76_16, sR76_18, sR76_19, sR76_20, sR76_21, sR76_23, sR76_25, sR76_26, sR76_27, sR76_28, sR76_29, sR76_30, sR76_31, sR76_32, sR76_33, sR76_34, sR76_37, sR76_38, sR76_39, sR76_40, sR76_41, sR76_42, ↓sB76_5, ↓sB76_16, ↓sB76_18, ↓sB76_19, ↓sB76_20, ↓sB76_21, ↓sB76_23, ↓sB76_25, ↓sB76_26, ↓sB76_27, ↓sB76_28, ↓sB76_29, ↓sB76_30, ↓sB76_31, ↓sB76_32, ↓sB76_33, ↓sB76_34, ↓sB76_37, ↓sB76_38, ↓sB76_39, ↓sB76_40, ↓sB76_41, ↓sB76_42, h17, e1]
  · show bX12_isWorking_2 h 76 (iI H) h = _
    unfold bX12_isWorking_2
    simp (maxSteps := 1000000) (disch := (first | assumption | exact ne_b rfl | omega)) only [↓reduceIte, ↓zlet_eq, ↓bdR_sI, ↓bdR_sJ, ↓bdR_aI, zc2_some, Option.bind_some, ↓si_m1, ↓si_m2, ↓si_m3, iI_lit, iI_add, iI_sub, iI_mul, leT, leF, ltT, ltF, eqT, eqF, zinT, clI, Int.toNat_natCast, Int.reduceToNat, tN1, tNa, tN0, tNm, if_pos, if_neg, zI_sI, zI_sJ, zI_sR, zJ_sI, zJ_sJ, zJ_sR, zR_sI, zR_sJ, zR_sR, zK_sI, zK_sJ, zK_sR, zL_sI, zL_sJ, zL_sR, zI_aI, zJ_aI, zR_aI, zK_aI, zL_aI, z2_at, z2_a, z2_k, z1_self, z1_ne, true_and, and_true, bIt, bIf, Bool.false_eq_true, Bool.true_eq_false, eq_self, not_true_eq_false, not_false_eq_true, sK76, sK77, sK78, sK79, sK80, sK81, sK82, sK83, sK84, sK85, sK86, sK87, sK88, sK89, sK90, sK91, sK92, sK93, sK94, sK95, sK96, sK97, sK98, sK99, sK100, sL77, sL78, sL79, sL80, sL81, sL82, sL83, sL84, sL85, sL86, sL87, sL88, sL89, sL90, sL91, sL92, sL93, sL94, sL95, sL96, sL97, sL98, sL99, sL100, sR76_5, sR76_16, sR76_18, sR76_19, sR76_20, sR76_21, sR76_23, sR76_25, sR76_26, sR76_27, sR76_28, sR76_29, sR76_30, sR76_31, sR76_32, sR76_33, sR76_34, sR76_37, sR76_38, sR76_39, sR76_40, sR76_41, sR76_42, ↓sB76_5, ↓sB76_16, ↓sB76_18, ↓sB76_19, ↓sB76_20, ↓sB76_21, ↓sB76_23, ↓sB76_25, ↓sB76_26, ↓sB76_27, ↓sB76_28, ↓sB76_29, ↓sB76_30, ↓sB76_31, ↓sB76_32, ↓sB76_33, ↓sB76_34, ↓sB76_37, ↓sB76_38, ↓sB76_39, ↓sB76_40, ↓sB76_41, ↓sB76_42, h17]
