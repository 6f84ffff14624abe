/-! counts for other decks, the largest deck -/
theorem si_cmp0 {a b : Int} (ha : jR a) (hb : jR b) : (0 < lg_cmp (jI a) (jI b)) ↔ b < a := by
  unfold lg_cmp
  by_cases c : b < a
  · rw [if_pos ((jI_lt hb ha).mpr c)]
    exact ⟨fun _ => c, fun _ => by decide⟩
  · rw [if_neg (fun q => c ((jI_lt hb ha).mp q))]
    constructor
    · intro q
      exfalso
      revert q
      split <;> decide
    · intro q; omega
theorem hnO_b {t : Tk} (tok : Tok t) {n : Nat} (hn : n ≤ 200) : 0 ≤ hnO t n ∧ hnO t n < 900000000000 ∧ 0 ≤ rwO t n ∧ rwO t n < 90000000000000 := by
  obtain ⟨bn4, bn12, bu1, bu4, bnu, bk2, bk5, bkn, bp1, bp2, bpk, bH, bsp, bs1, bs4, bT1, bT16, bR1, bR2, bH1, bff, bff1⟩ := tok.b
  have p1 := pch_ok n (by omega) (tk t) (by omega)
  have p2 := pch_ok n (by omega) (tsh t) (by omega)
  have hT : (0 : Int) ≤ tT t ∧ (tT t : Int) ≤ 16 := by omega
  unfold hnO rwO
  have key : ∀ a : Int, 0 ≤ a → a < 900000000000 → 0 ≤ a * (tT t : Int) ∧ a * (tT t : Int) < 90000000000000 := fun a h1 h2 => by
    refine ⟨Int.mul_nonneg h1 hT.1, ?_⟩
    have := Int.mul_le_mul_of_nonneg_left hT.2 h1
    omega
  have k1 := key (pch n (tsh t)) (by omega) (by omega)
  have k2 := key (pfall n (tsh t)) (by omega) (by omega)
  refine ⟨?_, ?_, ?_⟩
  · split <;> omega
  · split <;> omega
  · split
    · exact k1
    · exact k2
theorem fX0_handsOf_n {d : Nat} {t : Tk} {h : Zh} (q : Dk h d t) (tok : Tok t) {n : Nat} (hn : n ≤ 200) : fX0_handsOf d (iI n) h = some (jI (hnO t n), h) := by
  obtain ⟨bn4, bn12, bu1, bu4, bnu, bk2, bk5, bkn, bp1, bp2, bpk, bH, bsp, bs1, bs4, bT1, bT16, bR1, bR2, bH1, bff, bff1⟩ := tok.b
  unfold fX0_handsOf hnO
  cases e : tst t
  · have e0 := fX0_choose_eq (n := n) (k := tk t) (by omega) (by omega) h
    simp (maxSteps := 1000000) (disch := (first | assumption | exact ne_b rfl | omega)) only [↓reduceIte, ↓zlet_eq, ↓bdR_sI, ↓bdR_sJ, ↓bdR_aI, zc2_some, Option.bind_some, ↓si_m1, ↓si_m2, ↓si_m3, iI_lit, iI_add, iI_sub, iI_mul, leT, leF, ltT, ltF, eqT, eqF, zinT, clI, Int.toNat_natCast, Int.reduceToNat, tN1, tNa, tN0, tNm, if_pos, if_neg, zI_sI, zI_sJ, zI_sR, zJ_sI, zJ_sJ, zJ_sR, zR_sI, zR_sJ, zR_sR, zK_sI, zK_sJ, zK_sR, zL_sI, zL_sJ, zL_sR, zI_aI, zJ_aI, zR_aI, zK_aI, zL_aI, z2_at, z2_a, z2_k, z1_self, z1_ne, true_and, and_true, bIt, bIf, Bool.false_eq_true, Bool.true_eq_false, eq_self, not_true_eq_false, not_false_eq_true, q.fK, q.f0, q.f1, q.f2, q.f3, q.f4, q.f5, q.f6, q.f7, q.f8, q.f9, q.f10, q.f11, q.f12, e, e0]
    all_goals rfl
  · have e0 := fX0_falling_eq (n := (n : Int)) (k := tk t) ⟨by omega, by omega⟩ (by omega) h
    simp (maxSteps := 1000000) (disch := (first | assumption | exact ne_b rfl | omega)) only [↓reduceIte, ↓zlet_eq, ↓bdR_sI, ↓bdR_sJ, ↓bdR_aI, zc2_some, Option.bind_some, ↓si_m1, ↓si_m2, ↓si_m3, iI_lit, iI_add, iI_sub, iI_mul, leT, leF, ltT, ltF, eqT, eqF, zinT, clI, Int.toNat_natCast, Int.reduceToNat, tN1, tNa, tN0, tNm, if_pos, if_neg, zI_sI, zI_sJ, zI_sR, zJ_sI, zJ_sJ, zJ_sR, zR_sI, zR_sJ, zR_sR, zK_sI, zK_sJ, zK_sR, zL_sI, zL_sJ, zL_sR, zI_aI, zJ_aI, zR_aI, zK_aI, zL_aI, z2_at, z2_a, z2_k, z1_self, z1_ne, true_and, and_true, bIt, bIf, Bool.false_eq_true, Bool.true_eq_false, eq_self, not_true_eq_false, not_false_eq_true, q.fK, q.f0, q.f1, q.f2, q.f3, q.f4, q.f5, q.f6, q.f7, q.f8, q.f9, q.f10, q.f11, q.f12, e, e0]
theorem fX0_rowsOf_n {d : Nat} {t : Tk} {h : Zh} (q : Dk h d t) (tok : Tok t) {n : Nat} (hn : n ≤ 200) : fX0_rowsOf d (iI n) h = some (jI (rwO t n), h) := by
  obtain ⟨bn4, bn12, bu1, bu4, bnu, bk2, bk5, bkn, bp1, bp2, bpk, bH, bsp, bs1, bs4, bT1, bT16, bR1, bR2, bH1, bff, bff1⟩ := tok.b
  unfold fX0_rowsOf rwO
  have hT : (iI (tT t)).toInt64 = jI (tT t) := iI_long ⟨by omega, by omega⟩
  cases e : thd t
  · have e0 := fX0_falling_eq (n := (n : Int)) (k := tsh t) ⟨by omega, by omega⟩ (by omega) h
    simp (maxSteps := 1000000) (disch := (first | assumption | exact ne_b rfl | omega)) only [↓reduceIte, ↓zlet_eq, ↓bdR_sI, ↓bdR_sJ, ↓bdR_aI, zc2_some, Option.bind_some, ↓si_m1, ↓si_m2, ↓si_m3, iI_lit, iI_add, iI_sub, iI_mul, leT, leF, ltT, ltF, eqT, eqF, zinT, clI, Int.toNat_natCast, Int.reduceToNat, tN1, tNa, tN0, tNm, if_pos, if_neg, zI_sI, zI_sJ, zI_sR, zJ_sI, zJ_sJ, zJ_sR, zR_sI, zR_sJ, zR_sR, zK_sI, zK_sJ, zK_sR, zL_sI, zL_sJ, zL_sR, zI_aI, zJ_aI, zR_aI, zK_aI, zL_aI, z2_at, z2_a, z2_k, z1_self, z1_ne, true_and, and_true, bIt, bIf, Bool.false_eq_true, Bool.true_eq_false, eq_self, not_true_eq_false, not_false_eq_true, q.fK, q.f0, q.f1, q.f2, q.f3, q.f4, q.f5, q.f6, q.f7, q.f8, q.f9, q.f10, q.f11, q.f12, e, e0, hT, jI_mul]
    all_goals rfl
  · have e0 := fX0_choose_eq (n := n) (k := tsh t) (by omega) (by omega) h
    simp (maxSteps := 1000000) (disch := (first | assumption | exact ne_b rfl | omega)) only [↓reduceIte, ↓zlet_eq, ↓bdR_sI, ↓bdR_sJ, ↓bdR_aI, zc2_some, Option.bind_some, ↓si_m1, ↓si_m2, ↓si_m3, iI_lit, iI_add, iI_sub, iI_mul, leT, leF, ltT, ltF, eqT, eqF, zinT, clI, Int.toNat_natCast, Int.reduceToNat, tN1, tNa, tN0, tNm, if_pos, if_neg, zI_sI, zI_sJ, zI_sR, zJ_sI, zJ_sJ, zJ_sR, zR_sI, zR_sJ, zR_sR, zK_sI, zK_sJ, zK_sR, zL_sI, zL_sJ, zL_sR, zI_aI, zJ_aI, zR_aI, zK_aI, zL_aI, z2_at, z2_a, z2_k, z1_self, z1_ne, true_and, and_true, bIt, bIf, Bool.false_eq_true, Bool.true_eq_false, eq_self, not_true_eq_false, not_false_eq_true, q.fK, q.f0, q.f1, q.f2, q.f3, q.f4, q.f5, q.f6, q.f7, q.f8, q.f9, q.f10, q.f11, q.f12, e, e0, hT, jI_mul]
theorem fX11_handsOf_n {tr : Nat} {t : Tk} {h : Zh} (q : Tr h tr t) (tok : Tok t) {n : Nat} (hn : n ≤ 200) : fX11_handsOf tr (iI n) h = some (jI (hnO t n), h) := by
  obtain ⟨bn4, bn12, bu1, bu4, bnu, bk2, bk5, bkn, bp1, bp2, bpk, bH, bsp, bs1, bs4, bT1, bT16, bR1, bR2, bH1, bff, bff1⟩ := tok.b
  unfold fX11_handsOf hnO
  cases e : tst t
  · have e0 := fX12_setsOf_eq (n := n) (k := tk t) (by omega) (by omega) h
    simp (maxSteps := 1000000) (disch := (first | assumption | exact ne_b rfl | omega)) only [↓reduceIte, ↓zlet_eq, ↓bdR_sI, ↓bdR_sJ, ↓bdR_aI, zc2_some, Option.bind_some, ↓si_m1, ↓si_m2, ↓si_m3, iI_lit, iI_add, iI_sub, iI_mul, leT, leF, ltT, ltF, eqT, eqF, zinT, clI, Int.toNat_natCast, Int.reduceToNat, tN1, tNa, tN0, tNm, if_pos, if_neg, zI_sI, zI_sJ, zI_sR, zJ_sI, zJ_sJ, zJ_sR, zR_sI, zR_sJ, zR_sR, zK_sI, zK_sJ, zK_sR, zL_sI, zL_sJ, zL_sR, zI_aI, zJ_aI, zR_aI, zK_aI, zL_aI, z2_at, z2_a, z2_k, z1_self, z1_ne, true_and, and_true, bIt, bIf, Bool.false_eq_true, Bool.true_eq_false, eq_self, not_true_eq_false, not_false_eq_true, q.fK, q.f0, q.f1, q.f2, q.f3, q.f4, q.f7, q.f8, q.f9, e, e0]
    all_goals rfl
  · have e0 := fX12_rowsOf_eq (n := (n : Int)) (k := tk t) ⟨by omega, by omega⟩ (by omega) h
    simp (maxSteps := 1000000) (disch := (first | assumption | exact ne_b rfl | omega)) only [↓reduceIte, ↓zlet_eq, ↓bdR_sI, ↓bdR_sJ, ↓bdR_aI, zc2_some, Option.bind_some, ↓si_m1, ↓si_m2, ↓si_m3, iI_lit, iI_add, iI_sub, iI_mul, leT, leF, ltT, ltF, eqT, eqF, zinT, clI, Int.toNat_natCast, Int.reduceToNat, tN1, tNa, tN0, tNm, if_pos, if_neg, zI_sI, zI_sJ, zI_sR, zJ_sI, zJ_sJ, zJ_sR, zR_sI, zR_sJ, zR_sR, zK_sI, zK_sJ, zK_sR, zL_sI, zL_sJ, zL_sR, zI_aI, zJ_aI, zR_aI, zK_aI, zL_aI, z2_at, z2_a, z2_k, z1_self, z1_ne, true_and, and_true, bIt, bIf, Bool.false_eq_true, Bool.true_eq_false, eq_self, not_true_eq_false, not_false_eq_true, q.fK, q.f0, q.f1, q.f2, q.f3, q.f4, q.f7, q.f8, q.f9, e, e0]
theorem fX12_countOf_n {tr : Nat} {t : Tk} {h : Zh} (s : St h) (r3 : zR h 76 3 = some tr) (q : Tr h tr t) (tok : Tok t) {n : Nat} (hn : n ≤ 200) (b : Bool) : fX12_countOf 76 (iI n) (iI (bI b)) h = some (jI (if b then rwO t n else hnO t n), h) := by
  obtain ⟨bn4, bn12, bu1, bu4, bnu, bk2, bk5, bkn, bp1, bp2, bpk, bH, bsp, bs1, bs4, bT1, bT16, bR1, bR2, bH1, bff, bff1⟩ := tok.b
  have e1 := fX11_handsOf_n q tok hn
  have e2 := fX11_tilts_eq q tok
  have hT : (iI (tT t)).toInt64 = jI (tT t) := iI_long ⟨by omega, by omega⟩
  unfold fX12_countOf
  cases b
  · simp (maxSteps := 1000000) (disch := (first | assumption | exact ne_b rfl | omega)) only [↓reduceIte, ↓zlet_eq, ↓bdR_sI, ↓bdR_sJ, ↓bdR_aI, zc2_some, Option.bind_some, ↓si_m1, ↓si_m2, ↓si_m3, iI_lit, iI_add, iI_sub, iI_mul, leT, leF, ltT, ltF, eqT, eqF, zinT, clI, Int.toNat_natCast, Int.reduceToNat, tN1, tNa, tN0, tNm, if_pos, if_neg, zI_sI, zI_sJ, zI_sR, zJ_sI, zJ_sJ, zJ_sR, zR_sI, zR_sJ, zR_sR, zK_sI, zK_sJ, zK_sR, zL_sI, zL_sJ, zL_sR, zI_aI, zJ_aI, zR_aI, zK_aI, zL_aI, z2_at, z2_a, z2_k, z1_self, z1_ne, true_and, and_true, bIt, bIf, Bool.false_eq_true, Bool.true_eq_false, eq_self, not_true_eq_false, not_false_eq_true, sK76, sK77, sK78, sK79, sK80, sK81, sK82, sK83, sK84, sK85, sK86, sK87, sK88, sK89, sK90, sK91, sK92, sK93, sK94, sK95, sK96, sK97, sK98, sK99, sK100, sL77, sL78, sL79, sL80, sL81, sL82, sL83, sL84, sL85, sL86, sL87, sL88, sL89, sL90, sL91, sL92, sL93, sL94, sL95, sL96, sL97, sL98, sL99, sL100, sR76_5, sR76_16, sR76_18, sR76_19, sR76_20, sR76_21, sR76_23, sR76_25, sR76_26, sR76_27, sR76_28, sR76_29, sR76_30, sR76_31, sR76_32, sR76_33, sR76_34, sR76_37, sR76_38, sR76_39, sR76_40, sR76_41, sR76_42, ↓sB76_5, ↓sB76_16, ↓sB76_18, ↓sB76_19, ↓sB76_20, ↓sB76_21, ↓sB76_23, ↓sB76_25, ↓sB76_26, ↓sB76_27, ↓sB76_28, ↓sB76_29, ↓sB76_30, ↓sB76_31, ↓sB76_32, ↓sB76_33, ↓sB76_34, ↓sB76_37, ↓sB76_38, ↓sB76_39, ↓sB76_40, ↓sB76_41, ↓sB76_42, ↓bd_of r3, q.fK, q.f0, q.f1, q.f2, q.f3, q.f4, q.f7, q.f8, q.f9, e1]
    all_goals rfl
  · unfold rwO
    cases e : thd t
    · have e0 := fX12_rowsOf_eq (n := (n : Int)) (k := tsh t) ⟨by omega, by omega⟩ (by omega) h
      simp (maxSteps := 1000000) (disch := (first | assumption | exact ne_b rfl | omega)) only [↓reduceIte, ↓zlet_eq, ↓bdR_sI, ↓bdR_sJ, ↓bdR_aI, zc2_some, Option.bind_some, ↓si_m1, ↓si_m2, ↓si_m3, iI_lit, iI_add, iI_sub, iI_mul, leT, leF, ltT, ltF, eqT, eqF, zinT, clI, Int.toNat_natCast, Int.reduceToNat, tN1, tNa, tN0, tNm, if_pos, if_neg, zI_sI, zI_sJ, zI_sR, zJ_sI, zJ_sJ, zJ_sR, zR_sI, zR_sJ, zR_sR, zK_sI, zK_sJ, zK_sR, zL_sI, zL_sJ, zL_sR, zI_aI, zJ_aI, zR_aI, zK_aI, zL_aI, z2_at, z2_a, z2_k, z1_self, z1_ne, true_and, and_true, bIt, bIf, Bool.false_eq_true, Bool.true_eq_false, eq_self, not_true_eq_false, not_false_eq_true, sK76, sK77, sK78, sK79, sK80, sK81, sK82, sK83, sK84, sK85, sK86, sK87, sK88, sK89, sK90, sK91, sK92, sK93, sK94, sK95, sK96, sK97, sK98, sK99, sK100, sL77, sL78, sL79, sL80, sL81, sL82, sL83, sL84, sL85, sL86, sL87, sL88, sL89, sL90, sL91, sL92, sL93, sL94, sL95, sL96, sL97, sL98, sL99, sL100, sR76_5, sR76_16, sR76_18, sR76_19, sR76_20, sR76_21, sR76_23, sR76_25, sR76_26, sR76_27, sR76_28, sR76_29, sR76_30, sR76_31, sR76_32, sR76_33, sR76_34, sR76_37, sR76_38, sR76_39, sR76_40, sR76_41, sR76_42, ↓sB76_5, ↓sB76_16, ↓sB76_18, ↓sB76_19, ↓sB76_20, ↓sB76_21, ↓sB76_23, ↓sB76_25, ↓sB76_26, ↓sB76_27, ↓sB76_28, ↓sB76_29, ↓sB76_30, ↓sB76_31, ↓sB76_32, ↓sB76_33, ↓sB76_34, ↓sB76_37, ↓sB76_38, ↓sB76_39, ↓sB76_40, ↓sB76_41, ↓sB76_42, ↓bd_of r3, q.fK, q.f0, q.f1, q.f2, q.f3, q.f4, q.f7, q.f8, q.f9, e, e0, e2, hT, jI_mul]
      all_goals rfl
    · have e0 := fX12_setsOf_eq (n := n) (k := tsh t) (by omega) (by omega) h
      simp (maxSteps := 1000000) (disch := (first | assumption | exact ne_b rfl | omega)) only [↓reduceIte, ↓zlet_eq, ↓bdR_sI, ↓bdR_sJ, ↓bdR_aI, zc2_some, Option.bind_some, ↓si_m1, ↓si_m2, ↓si_m3, iI_lit, iI_add, iI_sub, iI_mul, leT, leF, ltT, ltF, eqT, eqF, zinT, clI, Int.toNat_natCast, Int.reduceToNat, tN1, tNa, tN0, tNm, if_pos, if_neg, zI_sI, zI_sJ, zI_sR, zJ_sI, zJ_sJ, zJ_sR, zR_sI, zR_sJ, zR_sR, zK_sI, zK_sJ, zK_sR, zL_sI, zL_sJ, zL_sR, zI_aI, zJ_aI, zR_aI, zK_aI, zL_aI, z2_at, z2_a, z2_k, z1_self, z1_ne, true_and, and_true, bIt, bIf, Bool.false_eq_true, Bool.true_eq_false, eq_self, not_true_eq_false, not_false_eq_true, sK76, sK77, sK78, sK79, sK80, sK81, sK82, sK83, sK84, sK85, sK86, sK87, sK88, sK89, sK90, sK91, sK92, sK93, sK94, sK95, sK96, sK97, sK98, sK99, sK100, sL77, sL78, sL79, sL80, sL81, sL82, sL83, sL84, sL85, sL86, sL87, sL88, sL89, sL90, sL91, sL92, sL93, sL94, sL95, sL96, sL97, sL98, sL99, sL100, sR76_5, sR76_16, sR76_18, sR76_19, sR76_20, sR76_21, sR76_23, sR76_25, sR76_26, sR76_27, sR76_28, sR76_29, sR76_30, sR76_31, sR76_32, sR76_33, sR76_34, sR76_37, sR76_38, sR76_39, sR76_40, sR76_41, sR76_42, ↓sB76_5, ↓sB76_16, ↓sB76_18, ↓sB76_19, ↓sB76_20, ↓sB76_21, ↓sB76_23, ↓sB76_25, ↓sB76_26, ↓sB76_27, ↓sB76_28, ↓sB76_29, ↓sB76_30, ↓sB76_31, ↓sB76_32, ↓sB76_33, ↓sB76_34, ↓sB76_37, ↓sB76_38, ↓sB76_39, ↓sB76_40, ↓sB76_41, ↓sB76_42, ↓bd_of r3, q.fK, q.f0, q.f1, q.f2, q.f3, q.f4, q.f7, q.f8, q.f9, e, e0, e2, hT, jI_mul]
      all_goals rfl
theorem mst_b (t : Tk) : ∀ d, -2 ≤ mst t d ∧ mst t d < (tk t + d : Nat)
  | 0 => by unfold mst; omega
  | d + 1 => by
    have := mst_b t d
    unfold mst
    split <;> omega
theorem fX4_largestDeck_eq {h : Zh} {td : Nat} {t : Tk} {rc : Nat} {ru : Nat → Nat} {CR OW se sp : Nat} {rdy : Bool} (tok : Tok t) (lg : LG h td t rc ru CR OW se sp rdy) : ∃ h', fX4_largestDeck 25 h = some (iI (mst t (201 - tk t)), h') ∧ LG h' td t rc ru CR OW se sp rdy ∧ Fm [25] h h' := by
  obtain ⟨bn4, bn12, bu1, bu4, bnu, bk2, bk5, bkn, bp1, bp2, bpk, bH, bsp, bs1, bs4, bT1, bT16, bR1, bR2, bH1, bff, bff1⟩ := tok.b
  have lg0 := lg
  obtain ⟨s, r1, tdh, hd, pi, prd, rs, ld, lx⟩ := lg
  have hrc := tdh.2.2.2.2.1
  have hN := s.1
  have a1 := tdh.1
  obtain ⟨t1, t2, -⟩ := tdS s a1
  have dk0 := tdh.2.2.1
  have hmb := mst_b t (201 - tk t)
  have n25 : td + 1 ≠ 25 := by omega
  rcases lx.2.2 with c | c
  · have hl : lp (fun q : Int32 × Zh => bX4_largestDeck_26 h 25 q.1 q.2) zB (iI (tk t), zsI h 25 9 (iI (-2))) = some (1, (iI 201, zsI h 25 9 (iI (mst t (201 - tk t))))) := by
      refine lp_for0 (st := fun d => ((iI ((tk t + d : Nat) : Int), zsI h 25 9 (iI (mst t d))) : Int32 × Zh)) (201 - tk t) rfl (by omega) (fun d hd => ?_) ?_
      · have sd : St (zsI h 25 9 (iI (mst t d))) := s.sI _ _ _
        have dkd : Dk (zsI h 25 9 (iI (mst t d))) (td + 1) t := dk0.fm (Fm_sI (S := [25]) _ _ _ (by simp)) (by simp; omega)
        have e1 := fX0_handsOf_n dkd tok (n := tk t + d) (by omega)
        have e2 := fX0_rowsOf_n dkd tok (n := tk t + d) (by omega)
        have hb := hnO_b tok (n := tk t + d) (by omega)
        have hcm := si_cmp0 (a := hnO t (tk t + d)) (b := rwO t (tk t + d)) ⟨by omega, by omega⟩ ⟨by omega, by omega⟩
        show bX4_largestDeck_26 h 25 (iI ((tk t + d : Nat) : Int)) (zsI h 25 9 (iI (mst t d))) = some (0, (iI ((tk t + (d + 1) : Nat) : Int), zsI h 25 9 (iI (mst t (d + 1)))))
        unfold bX4_largestDeck_26
        rw [mst]
        by_cases c2 : hnO t (tk t + d) ≤ rwO t (tk t + d)
        · have hcm' : ¬ 0 < lg_cmp (jI (hnO t (tk t + d))) (jI (rwO t (tk t + d))) := fun q => by have := hcm.mp q; omega
          rw [if_pos c2]
          rw [if_neg (show ¬ (200 : Int32) < iI ((tk t + d : Nat) : Int) by rw [iI_lit, iI_lt ⟨by decide, by decide⟩ ⟨by omega, by omega⟩]; show ¬ ((200 : Nat) : Int) < _; omega), bd_of (show zR (zsI h 25 9 (iI (mst t d))) 25 1 = some td from r1), if_pos t1, bd_of (show zR (zsI h 25 9 (iI (mst t d))) td 1 = some (td + 1) from t2), if_pos dk0.fK, zc_of e1, bd_of (show zR (zsI h 25 9 (iI (mst t d))) 25 1 = some td from r1), if_pos t1, bd_of (show zR (zsI h 25 9 (iI (mst t d))) td 1 = some (td + 1) from t2), if_pos dk0.fK, zc_of e2, if_neg hcm', zlet_eq, zlet_eq, zsI_same, iI_lit, iI_add]
          rfl
        · have hcm' : 0 < lg_cmp (jI (hnO t (tk t + d))) (jI (rwO t (tk t + d))) := hcm.mpr (by omega)
          rw [if_neg c2]
          rw [if_neg (show ¬ (200 : Int32) < iI ((tk t + d : Nat) : Int) by rw [iI_lit, iI_lt ⟨by decide, by decide⟩ ⟨by omega, by omega⟩]; show ¬ ((200 : Nat) : Int) < _; omega), bd_of (show zR (zsI h 25 9 (iI (mst t d))) 25 1 = some td from r1), if_pos t1, bd_of (show zR (zsI h 25 9 (iI (mst t d))) td 1 = some (td + 1) from t2), if_pos dk0.fK, zc_of e1, bd_of (show zR (zsI h 25 9 (iI (mst t d))) 25 1 = some td from r1), if_pos t1, bd_of (show zR (zsI h 25 9 (iI (mst t d))) td 1 = some (td + 1) from t2), if_pos dk0.fK, zc_of e2, if_pos hcm', zlet_eq, iI_lit, iI_add]
          rfl
      · show bX4_largestDeck_26 h 25 (iI ((tk t + (201 - tk t) : Nat) : Int)) _ = _
        rw [show tk t + (201 - tk t) = 201 by omega]
        unfold bX4_largestDeck_26
        simp (maxSteps := 1000000) (disch := (first | assumption | exact ne_b rfl | omega)) only [↓reduceIte, ↓zlet_eq, ↓bdR_sI, ↓bdR_sJ, ↓bdR_aI, zc2_some, Option.bind_some, ↓si_m1, ↓si_m2, ↓si_m3, iI_lit, iI_add, iI_sub, iI_mul, leT, leF, ltT, ltF, eqT, eqF, zinT, clI, Int.toNat_natCast, Int.reduceToNat, tN1, tNa, tN0, tNm, if_pos, if_neg, zI_sI, zI_sJ, zI_sR, zJ_sI, zJ_sJ, zJ_sR, zR_sI, zR_sJ, zR_sR, zK_sI, zK_sJ, zK_sR, zL_sI, zL_sJ, zL_sR, zI_aI, zJ_aI, zR_aI, zK_aI, zL_aI, z2_at, z2_a, z2_k, z1_self, z1_ne, true_and, and_true, bIt, bIf, Bool.false_eq_true, Bool.true_eq_false, eq_self, not_true_eq_false, not_false_eq_true]
        all_goals rfl
    have fm : Fm [25] h (zsI h 25 9 (iI (mst t (201 - tk t)))) := Fm_sI _ _ _ (by simp)
    refine ⟨zsI h 25 9 (iI (mst t (201 - tk t))), ?_, ?_, fm⟩
    · unfold fX4_largestDeck
      have s2 : St (zsI h 25 9 (iI (-2))) := s.sI _ _ _
      have f3 := dk0.f3
      simp (maxSteps := 1000000) (disch := (first | assumption | exact ne_b rfl | omega)) only [↓reduceIte, ↓zlet_eq, ↓bdR_sI, ↓bdR_sJ, ↓bdR_aI, zc2_some, Option.bind_some, ↓si_m1, ↓si_m2, ↓si_m3, iI_lit, iI_add, iI_sub, iI_mul, leT, leF, ltT, ltF, eqT, eqF, zinT, clI, Int.toNat_natCast, Int.reduceToNat, tN1, tNa, tN0, tNm, if_pos, if_neg, zI_sI, zI_sJ, zI_sR, zJ_sI, zJ_sJ, zJ_sR, zR_sI, zR_sJ, zR_sR, zK_sI, zK_sJ, zK_sR, zL_sI, zL_sJ, zL_sR, zI_aI, zJ_aI, zR_aI, zK_aI, zL_aI, z2_at, z2_a, z2_k, z1_self, z1_ne, true_and, and_true, bIt, bIf, Bool.false_eq_true, Bool.true_eq_false, eq_self, not_true_eq_false, not_false_eq_true, sK0, sK1, sK2, sK3, sK4, sK5, sK6, sK7, sK8, sK9, sK10, sK11, sK12, sK13, sK14, sK15, sK16, sK17, sK18, sK19, sK20, sK21, sK22, sK23, sK24, sK25, sK26, sK27, sK28, sK29, sK30, sK31, sK32, sK33, sK34, sK35, sK36, sK37, sK38, sK39, sK40, sK41, sK42, sK43, sK44, sK45, sK46, sK47, sK48, sK49, sK50, sK51, sK52, sK53, sK54, sK55, sK56, sK57, sK58, sK59, sK60, sK61, sK62, sK63, sK64, sK65, sK66, sK67, sK68, sK69, sK70, sK71, sK72, sK73, sK74, sK75, sL1, sL3, sL6, sL8, sL9, sL10, sL11, sL12, sL15, sL17, sL18, sL21, sL23, sL24, sL26, sL29, sL31, sL32, sL34, sL36, sL37, sL39, sL40, sL41, sL43, sL45, sL46, sL47, sL48, sL49, sL50, sL51, sL52, sL53, sL55, sL57, sL59, sL61, sL62, sL63, sL64, sL65, sL67, sL68, sL70, sL71, sL73, sL74, sL75, sR0_0, sR0_2, sR0_5, sR0_6, sR0_11, sR2_5, sR2_6, sR2_7, sR4_1, sR4_2, sR4_4, sR7_0, sR7_1, sR13_1, sR13_2, sR13_4, sR16_0, sR16_1, sR19_1, sR19_2, sR19_4, sR22_0, sR22_1, sR25_0, sR25_2, sR25_3, sR25_4, sR25_5, sR25_6, sR25_7, sR25_8, sR25_10, sR27_1, sR27_2, sR27_4, sR30_0, sR30_1, sR33_0, sR35_0, sR35_1, sR38_0, sR38_1, sR38_2, sR42_0, sR42_5, sR42_7, sR42_11, sR42_12, sR42_13, sR53_0, sR53_1, sR53_2, sR53_3, sR54_1, sR56_1, sR58_1, sR60_1, sR65_0, sR65_1, sR65_2, sR66_0, sR66_1, sR69_0, sR69_1, sR72_0, sR72_1, ↓sB0_0, ↓sB0_2, ↓sB0_5, ↓sB0_6, ↓sB0_11, ↓sB2_5, ↓sB2_6, ↓sB2_7, ↓sB4_1, ↓sB4_2, ↓sB4_4, ↓sB7_0, ↓sB7_1, ↓sB13_1, ↓sB13_2, ↓sB13_4, ↓sB16_0, ↓sB16_1, ↓sB19_1, ↓sB19_2, ↓sB19_4, ↓sB22_0, ↓sB22_1, ↓sB25_0, ↓sB25_2, ↓sB25_3, ↓sB25_4, ↓sB25_5, ↓sB25_6, ↓sB25_7, ↓sB25_8, ↓sB25_10, ↓sB27_1, ↓sB27_2, ↓sB27_4, ↓sB30_0, ↓sB30_1, ↓sB33_0, ↓sB35_0, ↓sB35_1, ↓sB38_0, ↓sB38_1, ↓sB38_2, ↓sB42_0, ↓sB42_5, ↓sB42_7, ↓sB42_11, ↓sB42_12, ↓sB42_13, ↓sB53_0, ↓sB53_1, ↓sB53_2, ↓sB53_3, ↓sB54_1, ↓sB56_1, ↓sB58_1, ↓sB60_1, ↓sB65_0, ↓sB65_1, ↓sB65_2, ↓sB66_0, ↓sB66_1, ↓sB69_0, ↓sB69_1, ↓sB72_0, ↓sB72_1, c, ↓bd_of r1, ↓bd_of t2, t1, dk0.fK, f3, ↓bd_of hl]
      show some (zI (zsI h 25 9 (iI (mst t (201 - tk t)))) 25 9, _) = _
      rw [zI_sI, z2_at]
    · refine ⟨s.fm fm, r1, tdh.fm fm (by simp), hd.fc fm.c hN (by simp), pi.fc fm.c hN (by simp) (by simp), prd.fc fm.c hN (by simp) (by simp), rs.fc fm.c hN (by simp) (by simp), fun k hk => (ld k hk).fc fm.c (by omega) (by simp; omega) (by simp; omega), by rw [fm.I (by simp)]; exact lx.1, by rw [fm.I (by simp)]; exact lx.2.1, Or.inr (by rw [zI_sI, z2_at])⟩
  · refine ⟨h, ?_, lg0, Fm.rf⟩
    unfold fX4_largestDeck
    simp (maxSteps := 1000000) (disch := (first | assumption | exact ne_b rfl | omega)) only [↓reduceIte, ↓zlet_eq, ↓bdR_sI, ↓bdR_sJ, ↓bdR_aI, zc2_some, Option.bind_some, ↓si_m1, ↓si_m2, ↓si_m3, iI_lit, iI_add, iI_sub, iI_mul, leT, leF, ltT, ltF, eqT, eqF, zinT, clI, Int.toNat_natCast, Int.reduceToNat, tN1, tNa, tN0, tNm, if_pos, if_neg, zI_sI, zI_sJ, zI_sR, zJ_sI, zJ_sJ, zJ_sR, zR_sI, zR_sJ, zR_sR, zK_sI, zK_sJ, zK_sR, zL_sI, zL_sJ, zL_sR, zI_aI, zJ_aI, zR_aI, zK_aI, zL_aI, z2_at, z2_a, z2_k, z1_self, z1_ne, true_and, and_true, bIt, bIf, Bool.false_eq_true, Bool.true_eq_false, eq_self, not_true_eq_false, not_false_eq_true, sK0, sK1, sK2, sK3, sK4, sK5, sK6, sK7, sK8, sK9, sK10, sK11, sK12, sK13, sK14, sK15, sK16, sK17, sK18, sK19, sK20, sK21, sK22, sK23, sK24, sK25, sK26, sK27, sK28, sK29, sK30, sK31, sK32, sK33, sK34, sK35, sK36, sK37, sK38, sK39, sK40, sK41, sK42, sK43, sK44, sK45, sK46, sK47, sK48, sK49, sK50, sK51, sK52, sK53, sK54, sK55, sK56, sK57, sK58, sK59, sK60, sK61, sK62, sK63, sK64, sK65, sK66, sK67, sK68, sK69, sK70, sK71, sK72, sK73, sK74, sK75, sL1, sL3, sL6, sL8, sL9, sL10, sL11, sL12, sL15, sL17, sL18, sL21, sL23, sL24, sL26, sL29, sL31, sL32, sL34, sL36, sL37, sL39, sL40, sL41, sL43, sL45, sL46, sL47, sL48, sL49, sL50, sL51, sL52, sL53, sL55, sL57, sL59, sL61, sL62, sL63, sL64, sL65, sL67, sL68, sL70, sL71, sL73, sL74, sL75, sR0_0, sR0_2, sR0_5, sR0_6, sR0_11, sR2_5, sR2_6, sR2_7, sR4_1, sR4_2, sR4_4, sR7_0, sR7_1, sR13_1, sR13_2, sR13_4, sR16_0, sR16_1, sR19_1, sR19_2, sR19_4, sR22_0, sR22_1, sR25_0, sR25_2, sR25_3, sR25_4, sR25_5, sR25_6, sR25_7, sR25_8, sR25_10, sR27_1, sR27_2, sR27_4, sR30_0, sR30_1, sR33_0, sR35_0, sR35_1, sR38_0, sR38_1, sR38_2, sR42_0, sR42_5, sR42_7, sR42_11, sR42_12, sR42_13, sR53_0, sR53_1, sR53_2, sR53_3, sR54_1, sR56_1, sR58_1, sR60_1, sR65_0, sR65_1, sR65_2, sR66_0, sR66_1, sR69_0, sR69_1, sR72_0, sR72_1, ↓sB0_0, ↓sB0_2, ↓sB0_5, ↓sB0_6, ↓sB0_11, ↓sB2_5, ↓sB2_6, ↓sB2_7, ↓sB4_1, ↓sB4_2, ↓sB4_4, ↓sB7_0, ↓sB7_1, ↓sB13_1, ↓sB13_2, ↓sB13_4, ↓sB16_0, ↓sB16_1, ↓sB19_1, ↓sB19_2, ↓sB19_4, ↓sB22_0, ↓sB22_1, ↓sB25_0, ↓sB25_2, ↓sB25_3, ↓sB25_4, ↓sB25_5, ↓sB25_6, ↓sB25_7, ↓sB25_8, ↓sB25_10, ↓sB27_1, ↓sB27_2, ↓sB27_4, ↓sB30_0, ↓sB30_1, ↓sB33_0, ↓sB35_0, ↓sB35_1, ↓sB38_0, ↓sB38_1, ↓sB38_2, ↓sB42_0, ↓sB42_5, ↓sB42_7, ↓sB42_11, ↓sB42_12, ↓sB42_13, ↓sB53_0, ↓sB53_1, ↓sB53_2, ↓sB53_3, ↓sB54_1, ↓sB56_1, ↓sB58_1, ↓sB60_1, ↓sB65_0, ↓sB65_1, ↓sB65_2, ↓sB66_0, ↓sB66_1, ↓sB69_0, ↓sB69_1, ↓sB72_0, ↓sB72_1, c]
