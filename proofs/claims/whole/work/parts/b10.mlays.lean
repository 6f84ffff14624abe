/-! the model: what a rule lays -/
def KT (h : Zh) (t : Tk) : Prop := zI h 76 35 = iI 0 ∨ (zI h 76 35 = iI 1 ∧ ∃ wh : Bool, zI h 76 36 = iI (bI wh) ∧ (wh = true → ∀ x, x < tH t → zI h 92 x = iI (tabR t x)) ∧ (wh = false → ∀ x, tabR t x = -2))
def MD (h : Zh) (t : Tk) (tr ra rc : Nat) (ru : Nat → Nat) : Prop := MX h t tr ∧ zR h tr 10 = some ra ∧ 101 ≤ ra ∧ zK h ra = 100 ∧ zL h ra = 4 ∧ zI h tr 5 = iI rc ∧ rc ≤ 4 ∧ (∀ i, i < rc → zI h ra i = iI (ru i) ∧ ru i ≤ 21) ∧ KT h t
def MFr (h h' : Zh) : Prop := Fm [76, 79, 80, 81, 82, 84, 85, 86, 87, 88, 89, 90, 91, 92, 93] h h' ∧ ∀ j, j ≠ 22 → j ≠ 35 → j ≠ 36 → zI h' 76 j = zI h 76 j
theorem MFr.rf {h : Zh} : MFr h h := ⟨Fm.rf, fun _ _ _ _ => rfl⟩
theorem MFr.tr {a b c : Zh} (p : MFr a b) (q : MFr b c) : MFr a c := ⟨p.1.tr q.1, fun j h1 h2 h3 => (q.2 j h1 h2 h3).trans (p.2 j h1 h2 h3)⟩
theorem MFr.of {S : List Nat} {h h' : Zh} (f : Fm S h h') (h1 : ∀ x, x ∈ S → x ∈ [79, 80, 81, 82, 84, 85, 86, 87, 88, 89, 90, 91, 92, 93]) : MFr h h' := ⟨f.mono (fun x hx => List.mem_cons_of_mem _ (h1 x hx)), fun j _ _ _ => by rw [f.I (fun m => by have := h1 _ m; revert this; decide)]⟩
def MFl (h h' : Zh) : Prop := Fm [76, 80, 81, 82, 86, 87, 88, 89, 90, 91, 92, 93] h h' ∧ ∀ j, j ≠ 22 → j ≠ 35 → j ≠ 36 → zI h' 76 j = zI h 76 j
theorem MFl.r {h h' : Zh} (p : MFl h h') : MFr h h' := ⟨p.1.mono (by simp), p.2⟩
theorem MFl.rf {h : Zh} : MFl h h := ⟨Fm.rf, fun _ _ _ _ => rfl⟩
theorem MFl.tr {a b c : Zh} (p : MFl a b) (q : MFl b c) : MFl a c := ⟨p.1.tr q.1, fun j h1 h2 h3 => (q.2 j h1 h2 h3).trans (p.2 j h1 h2 h3)⟩
theorem MFl.of {S : List Nat} {h h' : Zh} (f : Fm S h h') (h1 : ∀ x, x ∈ S → x ∈ [80, 81, 82, 86, 87, 88, 89, 90, 91, 92, 93]) : MFl h h' := ⟨f.mono (fun x hx => List.mem_cons_of_mem _ (h1 x hx)), fun j _ _ _ => by rw [f.I (fun m => by have := h1 _ m; revert this; decide)]⟩
theorem MD.fm {S : List Nat} {h h' : Zh} {t : Tk} {tr ra rc : Nat} {ru : Nat → Nat} (q : MD h t tr ra rc ru) (f : Fm S h h') (hS : ∀ x, x ∈ S → x < 101 ∧ x ≠ 76 ∧ x ≠ 78 ∧ x ≠ 83 ∧ x ≠ 92) : MD h' t tr ra rc ru := by
  obtain ⟨a1, a2, a3, a4, a5, a6, a7, a8, a9⟩ := q
  have n76 : 76 ∉ S := fun m => (hS _ m).2.1 rfl
  have n92 : 92 ∉ S := fun m => (hS _ m).2.2.2.2 rfl
  have htr := a1.2.1
  have ntr : tr ∉ S := fun m => by have := (hS _ m).1; omega
  have nra : ra ∉ S := fun m => by have := (hS _ m).1; omega
  refine ⟨a1.fm2 f (by rw [f.I n76]) (by rw [f.I n76]) (fun x m => ⟨(hS x m).1, (hS x m).2.2.1, (hS x m).2.2.2.1⟩), by rw [f.R]; exact a2, a3, by rw [f.K]; exact a4, by rw [f.L]; exact a5, by rw [f.I ntr]; exact a6, a7, by rw [f.I nra]; exact a8, ?_⟩
  unfold KT
  rw [f.I n76, f.I n92]
  exact a9
theorem fX12_knowsTable_1 {h : Zh} (s : St h) (h35 : zI h 76 35 = iI 1) : fX12_knowsTable 76 h = some h := by
  unfold fX12_knowsTable
  simp (maxSteps := 1000000) (disch := (first | assumption | exact ne_b rfl | omega)) only [↓reduceIte, ↓zlet_eq, ↓bdR_sI, ↓bdR_sJ, ↓bdR_aI, zc2_some, Option.bind_some, ↓si_m1, ↓si_m2, ↓si_m3, iI_lit, iI_add, iI_sub, iI_mul, leT, leF, ltT, ltF, eqT, eqF, zinT, clI, Int.toNat_natCast, Int.reduceToNat, tN1, tNa, tN0, tNm, if_pos, if_neg, zI_sI, zI_sJ, zI_sR, zJ_sI, zJ_sJ, zJ_sR, zR_sI, zR_sJ, zR_sR, zK_sI, zK_sJ, zK_sR, zL_sI, zL_sJ, zL_sR, zI_aI, zJ_aI, zR_aI, zK_aI, zL_aI, z2_at, z2_a, z2_k, z1_self, z1_ne, true_and, and_true, bIt, bIf, Bool.false_eq_true, Bool.true_eq_false, eq_self, not_true_eq_false, not_false_eq_true, sK76, sK77, sK78, sK79, sK80, sK81, sK82, sK83, sK84, sK85, sK86, sK87, sK88, sK89, sK90, sK91, sK92, sK93, sK94, sK95, sK96, sK97, sK98, sK99, sK100, sL77, sL78, sL79, sL80, sL81, sL82, sL83, sL84, sL85, sL86, sL87, sL88, sL89, sL90, sL91, sL92, sL93, sL94, sL95, sL96, sL97, sL98, sL99, sL100, sR76_5, sR76_16, sR76_18, sR76_19, sR76_20, sR76_21, sR76_23, sR76_25, sR76_26, sR76_27, sR76_28, sR76_29, sR76_30, sR76_31, sR76_32, sR76_33, sR76_34, sR76_37, sR76_38, sR76_39, sR76_40, sR76_41, sR76_42, ↓sB76_5, ↓sB76_16, ↓sB76_18, ↓sB76_19, ↓sB76_20, ↓sB76_21, ↓sB76_23, ↓sB76_25, ↓sB76_26, ↓sB76_27, ↓sB76_28, ↓sB76_29, ↓sB76_30, ↓sB76_31, ↓sB76_32, ↓sB76_33, ↓sB76_34, ↓sB76_37, ↓sB76_38, ↓sB76_39, ↓sB76_40, ↓sB76_41, ↓sB76_42, h35]
  all_goals rfl
/-- the table, known or found -/
theorem fX12_knowsTable_kt {h : Zh} {t : Tk} {tr ra rc : Nat} {ru : Nat → Nat} (tok : Tok t) (hH : tH t ≤ 300) (md : MD h t tr ra rc ru) : ∃ wh h', fX12_knowsTable 76 h = some h' ∧ MFl h h' ∧ MD h' t tr ra rc ru ∧ zI h' 76 36 = iI (bI wh) ∧ (wh = true → ∀ x, x < tH t → zI h' 92 x = iI (tabR t x)) ∧ (wh = false → ∀ x, tabR t x = -2) := by
  have md0 := md
  obtain ⟨mx, a2, a3, a4, a5, a6, a7, a8, kt⟩ := md
  rcases kt with k | ⟨k, wh, k1, k2, k3⟩
  · obtain ⟨wh, h', e1, e2, e3, e4, e5, e6, e7⟩ := fX12_knowsTable_eq tok hH mx k
    have htr := mx.2.1
    have ntr : tr ∉ [76, 80, 82, 86, 87, 88, 89, 90, 91, 92, 93] := by simp; omega
    have nra : ra ∉ [76, 80, 82, 86, 87, 88, 89, 90, 91, 92, 93] := by simp; omega
    refine ⟨wh, h', e1, ⟨e2.mono (by simp), e3⟩, ⟨mx.fm2 e2 (e3 17 (by decide) (by decide) (by decide)) (e3 24 (by decide) (by decide) (by decide)) (by simp), by rw [e2.R]; exact a2, a3, by rw [e2.K]; exact a4, by rw [e2.L]; exact a5, by rw [e2.I ntr]; exact a6, a7, by rw [e2.I nra]; exact a8, Or.inr ⟨e4, wh, e5, fun q => (e6 q).2, e7⟩⟩, e5, fun q => (e6 q).2, e7⟩
  · exact ⟨wh, h, fX12_knowsTable_1 mx.1 k, MFl.rf, md0, k1, k2, k3⟩
theorem fX12_laysNow_eq {h : Zh} {t : Tk} {tr ra rc i x : Nat} {ru : Nat → Nat} (tok : Tok t) (md : MD h t tr ra rc ru) (hi : i < rc) (hx : x < tH t) : ∃ h', fX12_laysNow 76 (iI i) (iI x) h = some (iI (lay t (ru i) x), h') ∧ MFl h h' ∧ MD h' t tr ra rc ru := by
  obtain ⟨bn4, bn12, bu1, bu4, bnu, bk2, bk5, bkn, bp1, bp2, bpk, bH, bsp, bs1, bs4, bT1, bT16, bR1, bR2, bH1, bff, bff1⟩ := tok.b
  have md0 := md
  obtain ⟨mx, a2, a3, a4, a5, a6, a7, a8, kt⟩ := md
  obtain ⟨s, htr, r3, qt, cd, cdm⟩ := mx
  obtain ⟨v1, v2⟩ := a8 i hi
  have h17 := cd.1
  unfold fX12_laysNow lay
  by_cases c : ru i = 21
  · rw [if_pos c]
    rw [c] at v1
    by_cases cH : tH t ≤ 300
    · obtain ⟨wh, h', e1, e2, e3, e4, e5, e6⟩ := fX12_knowsTable_kt tok cH md0
      have s' := e3.1.1
      refine ⟨h', ?_, e2, e3⟩
      cases wh
      · have e7 := e6 rfl x
        rw [e7]
        simp (maxSteps := 1000000) (disch := (first | assumption | exact ne_b rfl | omega)) only [↓reduceIte, ↓zlet_eq, ↓bdR_sI, ↓bdR_sJ, ↓bdR_aI, zc2_some, Option.bind_some, ↓si_m1, ↓si_m2, ↓si_m3, iI_lit, iI_add, iI_sub, iI_mul, leT, leF, ltT, ltF, eqT, eqF, zinT, clI, Int.toNat_natCast, Int.reduceToNat, tN1, tNa, tN0, tNm, if_pos, if_neg, zI_sI, zI_sJ, zI_sR, zJ_sI, zJ_sJ, zJ_sR, zR_sI, zR_sJ, zR_sR, zK_sI, zK_sJ, zK_sR, zL_sI, zL_sJ, zL_sR, zI_aI, zJ_aI, zR_aI, zK_aI, zL_aI, z2_at, z2_a, z2_k, z1_self, z1_ne, true_and, and_true, bIt, bIf, Bool.false_eq_true, Bool.true_eq_false, eq_self, not_true_eq_false, not_false_eq_true, sK76, sK77, sK78, sK79, sK80, sK81, sK82, sK83, sK84, sK85, sK86, sK87, sK88, sK89, sK90, sK91, sK92, sK93, sK94, sK95, sK96, sK97, sK98, sK99, sK100, sL77, sL78, sL79, sL80, sL81, sL82, sL83, sL84, sL85, sL86, sL87, sL88, sL89, sL90, sL91, sL92, sL93, sL94, sL95, sL96, sL97, sL98, sL99, sL100, sR76_5, sR76_16, sR76_18, sR76_19, sR76_20, sR76_21, sR76_23, sR76_25, sR76_26, sR76_27, sR76_28, sR76_29, sR76_30, sR76_31, sR76_32, sR76_33, sR76_34, sR76_37, sR76_38, sR76_39, sR76_40, sR76_41, sR76_42, ↓sB76_5, ↓sB76_16, ↓sB76_18, ↓sB76_19, ↓sB76_20, ↓sB76_21, ↓sB76_23, ↓sB76_25, ↓sB76_26, ↓sB76_27, ↓sB76_28, ↓sB76_29, ↓sB76_30, ↓sB76_31, ↓sB76_32, ↓sB76_33, ↓sB76_34, ↓sB76_37, ↓sB76_38, ↓sB76_39, ↓sB76_40, ↓sB76_41, ↓sB76_42, ↓bd_of r3, qt.fK, qt.f0, qt.f1, qt.f2, qt.f3, qt.f4, qt.f7, qt.f8, qt.f9, ↓bd_of a2, a4, a5, v1, h17, ↓bd_of e1, e4]
        all_goals rfl
      · have e7 := e5 rfl x hx
        simp (maxSteps := 1000000) (disch := (first | assumption | exact ne_b rfl | omega)) only [↓reduceIte, ↓zlet_eq, ↓bdR_sI, ↓bdR_sJ, ↓bdR_aI, zc2_some, Option.bind_some, ↓si_m1, ↓si_m2, ↓si_m3, iI_lit, iI_add, iI_sub, iI_mul, leT, leF, ltT, ltF, eqT, eqF, zinT, clI, Int.toNat_natCast, Int.reduceToNat, tN1, tNa, tN0, tNm, if_pos, if_neg, zI_sI, zI_sJ, zI_sR, zJ_sI, zJ_sJ, zJ_sR, zR_sI, zR_sJ, zR_sR, zK_sI, zK_sJ, zK_sR, zL_sI, zL_sJ, zL_sR, zI_aI, zJ_aI, zR_aI, zK_aI, zL_aI, z2_at, z2_a, z2_k, z1_self, z1_ne, true_and, and_true, bIt, bIf, Bool.false_eq_true, Bool.true_eq_false, eq_self, not_true_eq_false, not_false_eq_true, sK76, sK77, sK78, sK79, sK80, sK81, sK82, sK83, sK84, sK85, sK86, sK87, sK88, sK89, sK90, sK91, sK92, sK93, sK94, sK95, sK96, sK97, sK98, sK99, sK100, sL77, sL78, sL79, sL80, sL81, sL82, sL83, sL84, sL85, sL86, sL87, sL88, sL89, sL90, sL91, sL92, sL93, sL94, sL95, sL96, sL97, sL98, sL99, sL100, sR76_5, sR76_16, sR76_18, sR76_19, sR76_20, sR76_21, sR76_23, sR76_25, sR76_26, sR76_27, sR76_28, sR76_29, sR76_30, sR76_31, sR76_32, sR76_33, sR76_34, sR76_37, sR76_38, sR76_39, sR76_40, sR76_41, sR76_42, ↓sB76_5, ↓sB76_16, ↓sB76_18, ↓sB76_19, ↓sB76_20, ↓sB76_21, ↓sB76_23, ↓sB76_25, ↓sB76_26, ↓sB76_27, ↓sB76_28, ↓sB76_29, ↓sB76_30, ↓sB76_31, ↓sB76_32, ↓sB76_33, ↓sB76_34, ↓sB76_37, ↓sB76_38, ↓sB76_39, ↓sB76_40, ↓sB76_41, ↓sB76_42, ↓bd_of r3, qt.fK, qt.f0, qt.f1, qt.f2, qt.f3, qt.f4, qt.f7, qt.f8, qt.f9, ↓bd_of a2, a4, a5, v1, h17, ↓bd_of e1, e4, e7]
        all_goals rfl
    · refine ⟨h, ?_, MFl.rf, md0⟩
      rw [tabR_big cH]
      simp (maxSteps := 1000000) (disch := (first | assumption | exact ne_b rfl | omega)) only [↓reduceIte, ↓zlet_eq, ↓bdR_sI, ↓bdR_sJ, ↓bdR_aI, zc2_some, Option.bind_some, ↓si_m1, ↓si_m2, ↓si_m3, iI_lit, iI_add, iI_sub, iI_mul, leT, leF, ltT, ltF, eqT, eqF, zinT, clI, Int.toNat_natCast, Int.reduceToNat, tN1, tNa, tN0, tNm, if_pos, if_neg, zI_sI, zI_sJ, zI_sR, zJ_sI, zJ_sJ, zJ_sR, zR_sI, zR_sJ, zR_sR, zK_sI, zK_sJ, zK_sR, zL_sI, zL_sJ, zL_sR, zI_aI, zJ_aI, zR_aI, zK_aI, zL_aI, z2_at, z2_a, z2_k, z1_self, z1_ne, true_and, and_true, bIt, bIf, Bool.false_eq_true, Bool.true_eq_false, eq_self, not_true_eq_false, not_false_eq_true, sK76, sK77, sK78, sK79, sK80, sK81, sK82, sK83, sK84, sK85, sK86, sK87, sK88, sK89, sK90, sK91, sK92, sK93, sK94, sK95, sK96, sK97, sK98, sK99, sK100, sL77, sL78, sL79, sL80, sL81, sL82, sL83, sL84, sL85, sL86, sL87, sL88, sL89, sL90, sL91, sL92, sL93, sL94, sL95, sL96, sL97, sL98, sL99, sL100, sR76_5, sR76_16, sR76_18, sR76_19, sR76_20, sR76_21, sR76_23, sR76_25, sR76_26, sR76_27, sR76_28, sR76_29, sR76_30, sR76_31, sR76_32, sR76_33, sR76_34, sR76_37, sR76_38, sR76_39, sR76_40, sR76_41, sR76_42, ↓sB76_5, ↓sB76_16, ↓sB76_18, ↓sB76_19, ↓sB76_20, ↓sB76_21, ↓sB76_23, ↓sB76_25, ↓sB76_26, ↓sB76_27, ↓sB76_28, ↓sB76_29, ↓sB76_30, ↓sB76_31, ↓sB76_32, ↓sB76_33, ↓sB76_34, ↓sB76_37, ↓sB76_38, ↓sB76_39, ↓sB76_40, ↓sB76_41, ↓sB76_42, ↓bd_of r3, qt.fK, qt.f0, qt.f1, qt.f2, qt.f3, qt.f4, qt.f7, qt.f8, qt.f9, ↓bd_of a2, a4, a5, v1, h17]
      all_goals rfl
  · rw [if_neg c]
    by_cases c2 : ru i = 20
    · rw [if_pos c2]
      rw [c2] at v1
      obtain ⟨h', e1, e2⟩ := fX12_laysSuit_eq s htr r3 qt cd tok hx
      refine ⟨h', ?_, MFl.of e2 (by simp), md0.fm e2 (by simp)⟩
      simp (maxSteps := 1000000) (disch := (first | assumption | exact ne_b rfl | omega)) only [↓reduceIte, ↓zlet_eq, ↓bdR_sI, ↓bdR_sJ, ↓bdR_aI, zc2_some, Option.bind_some, ↓si_m1, ↓si_m2, ↓si_m3, iI_lit, iI_add, iI_sub, iI_mul, leT, leF, ltT, ltF, eqT, eqF, zinT, clI, Int.toNat_natCast, Int.reduceToNat, tN1, tNa, tN0, tNm, if_pos, if_neg, zI_sI, zI_sJ, zI_sR, zJ_sI, zJ_sJ, zJ_sR, zR_sI, zR_sJ, zR_sR, zK_sI, zK_sJ, zK_sR, zL_sI, zL_sJ, zL_sR, zI_aI, zJ_aI, zR_aI, zK_aI, zL_aI, z2_at, z2_a, z2_k, z1_self, z1_ne, true_and, and_true, bIt, bIf, Bool.false_eq_true, Bool.true_eq_false, eq_self, not_true_eq_false, not_false_eq_true, sK76, sK77, sK78, sK79, sK80, sK81, sK82, sK83, sK84, sK85, sK86, sK87, sK88, sK89, sK90, sK91, sK92, sK93, sK94, sK95, sK96, sK97, sK98, sK99, sK100, sL77, sL78, sL79, sL80, sL81, sL82, sL83, sL84, sL85, sL86, sL87, sL88, sL89, sL90, sL91, sL92, sL93, sL94, sL95, sL96, sL97, sL98, sL99, sL100, sR76_5, sR76_16, sR76_18, sR76_19, sR76_20, sR76_21, sR76_23, sR76_25, sR76_26, sR76_27, sR76_28, sR76_29, sR76_30, sR76_31, sR76_32, sR76_33, sR76_34, sR76_37, sR76_38, sR76_39, sR76_40, sR76_41, sR76_42, ↓sB76_5, ↓sB76_16, ↓sB76_18, ↓sB76_19, ↓sB76_20, ↓sB76_21, ↓sB76_23, ↓sB76_25, ↓sB76_26, ↓sB76_27, ↓sB76_28, ↓sB76_29, ↓sB76_30, ↓sB76_31, ↓sB76_32, ↓sB76_33, ↓sB76_34, ↓sB76_37, ↓sB76_38, ↓sB76_39, ↓sB76_40, ↓sB76_41, ↓sB76_42, ↓bd_of r3, qt.fK, qt.f0, qt.f1, qt.f2, qt.f3, qt.f4, qt.f7, qt.f8, qt.f9, ↓bd_of a2, a4, a5, v1, ↓zc_of e1]
    · rw [if_neg c2]
      obtain ⟨h', e1, e2⟩ := fX12_laysWords_eq (words := ru i) s htr r3 qt cd tok hx (by omega)
      refine ⟨h', ?_, MFl.of e2 (by simp), md0.fm e2 (by simp)⟩
      have k1 : ¬ (ru i : Int) = 21 := by omega
      have k2 : ¬ (ru i : Int) = 20 := by omega
      simp (maxSteps := 1000000) (disch := (first | assumption | exact ne_b rfl | omega)) only [↓reduceIte, ↓zlet_eq, ↓bdR_sI, ↓bdR_sJ, ↓bdR_aI, zc2_some, Option.bind_some, ↓si_m1, ↓si_m2, ↓si_m3, iI_lit, iI_add, iI_sub, iI_mul, leT, leF, ltT, ltF, eqT, eqF, zinT, clI, Int.toNat_natCast, Int.reduceToNat, tN1, tNa, tN0, tNm, if_pos, if_neg, zI_sI, zI_sJ, zI_sR, zJ_sI, zJ_sJ, zJ_sR, zR_sI, zR_sJ, zR_sR, zK_sI, zK_sJ, zK_sR, zL_sI, zL_sJ, zL_sR, zI_aI, zJ_aI, zR_aI, zK_aI, zL_aI, z2_at, z2_a, z2_k, z1_self, z1_ne, true_and, and_true, bIt, bIf, Bool.false_eq_true, Bool.true_eq_false, eq_self, not_true_eq_false, not_false_eq_true, sK76, sK77, sK78, sK79, sK80, sK81, sK82, sK83, sK84, sK85, sK86, sK87, sK88, sK89, sK90, sK91, sK92, sK93, sK94, sK95, sK96, sK97, sK98, sK99, sK100, sL77, sL78, sL79, sL80, sL81, sL82, sL83, sL84, sL85, sL86, sL87, sL88, sL89, sL90, sL91, sL92, sL93, sL94, sL95, sL96, sL97, sL98, sL99, sL100, sR76_5, sR76_16, sR76_18, sR76_19, sR76_20, sR76_21, sR76_23, sR76_25, sR76_26, sR76_27, sR76_28, sR76_29, sR76_30, sR76_31, sR76_32, sR76_33, sR76_34, sR76_37, sR76_38, sR76_39, sR76_40, sR76_41, sR76_42, ↓sB76_5, ↓sB76_16, ↓sB76_18, ↓sB76_19, ↓sB76_20, ↓sB76_21, ↓sB76_23, ↓sB76_25, ↓sB76_26, ↓sB76_27, ↓sB76_28, ↓sB76_29, ↓sB76_30, ↓sB76_31, ↓sB76_32, ↓sB76_33, ↓sB76_34, ↓sB76_37, ↓sB76_38, ↓sB76_39, ↓sB76_40, ↓sB76_41, ↓sB76_42, ↓bd_of r3, qt.fK, qt.f0, qt.f1, qt.f2, qt.f3, qt.f4, qt.f7, qt.f8, qt.f9, ↓bd_of a2, a4, a5, v1, ↓zc_of e1]
